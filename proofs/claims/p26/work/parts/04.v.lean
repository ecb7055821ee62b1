
/-! memory: row k, place i; a layout says what cell a row is -/
abbrev Mem : Type := Nat → Nat → Int32
def mset (M : Mem) (k i : Nat) (x : Int32) : Mem := fun a => if a = k then upd (M a) i x else M a
abbrev Lay : Type := Nat → (Nat → Int32) → va_E
def wl (n : Nat) (ad : Nat → Nat) (g : Lay) (M : Mem) : va_W := (List.range n).map (fun k => (ad k, g k (M k)))
theorem wl_len {n : Nat} {ad : Nat → Nat} {g : Lay} {M : Mem} : (wl n ad g M).length = n := by simp [wl]
theorem wl_at {n : Nat} {ad : Nat → Nat} {g : Lay} {M : Mem} {k : Nat} (h : k < n) : (wl n ad g M)[k]? = some (ad k, g k (M k)) := by simp [wl, h]
theorem mset_s {M : Mem} {k i : Nat} {x : Int32} : mset M k i x k = upd (M k) i x := by simp [mset]
theorem mset_n {M : Mem} {k i a : Nat} {x : Int32} (h : a ≠ k) : mset M k i x a = M a := by simp [mset, h]
theorem wl_set {n : Nat} {ad : Nat → Nat} {g : Lay} {M : Mem} {k i : Nat} {x : Int32} (hk : k < n) : (wl n ad g M).set k (ad k, g k (upd (M k) i x)) = wl n ad g (mset M k i x) := by
  apply List.ext_getElem?
  intro j
  by_cases hj : j = k
  · subst hj
    rw [List.getElem?_set_self (by rw [wl_len]; exact hk), wl_at hk, mset_s]
  · rw [List.getElem?_set_ne (Ne.symm hj)]
    by_cases hn : j < n
    · rw [wl_at hn, wl_at hn, mset_n hj]
    · rw [List.getElem?_eq_none (by rw [wl_len]; omega), List.getElem?_eq_none (by rw [wl_len]; omega)]
abbrev CT : Type := Program × Launch × Env × Room × State × MethodId × Array Value × List Frame × Method × Code × (State → Prop) × (Nat → Prop) × va_G × Nat × (Nat → Nat) × Lay × Nat
def V : CT → Mem → List (Nat × Value) → List Value → Nat → Prop
  | (p, l, e, R, s, m, args, below, meth, c, Q, A, D, n, ad, g, nL), M, lv, st, pc => ∀ (H : Heap) (locs : List Loc) (ls : Array Slot), va_P D cls11 (wl n ad g M) H → va_S A s.heap H locs → lv_has ls nL lv → W p l e R s m args below meth c H locs 0 0 Q (F0 m pc ls st)
def tyl (cI cZ cB : ClassId) : List (ClassId × FieldType) := [(cI, .int), (cZ, .boolean), (cB, .byte)]
def Ok (X : CT) (cc : ByteArray) (own : String) (nL n : Nat) (ad : Nat → Nat) (g : Lay) (cI cZ cB : ClassId) (d : Nat) : Prop := match X with
  | (p, l, e, R, s, m, args, below, meth, c, Q, A, D, n', ad', g', nL') => p.tables.exec = Jvm.exec ∧ c.code = cc ∧ c.maxLocals = nL ∧ s.vm.findClass own = some m.cls ∧ (∀ w ∈ UL, w.before args s = true) ∧ va_K D cls11 (tyl cI cZ cB) s ∧ (∀ M, va_D A (wl n ad g M)) ∧ n' = n ∧ ad' = ad ∧ g' = g ∧ nL' = nL ∧ (d ≤ R.frames ∧ 64 * d ≤ R.locals) ∧ (∀ q, s.heap.size ≤ q → A q) ∧ meth.locks = false
def QA (D : va_G) (n : Nat) (ad : Nat → Nat) (g : Lay) (tys : List (ClassId × FieldType)) (post : Option Value → Mem → Prop) (A : Nat → Prop) : Array Value → State → Outcome → State → Prop := fun _ st oc t =>
  (∃ (v : Option Value) (M : Mem), oc = .returned v ∧ post v M ∧ va_P D cls11 (wl n ad g M) t.heap ∧ va_K D cls11 tys t) ∧ va_F A st t
def Ret (X : CT) (ret : Option FieldType) (cI cZ cB : ClassId) (post : Option Value → Mem → Prop) : Prop := match X with
  | (p, l, e, R, s, m, args, below, meth, c, Q, A, D, n, ad, g, nL) => meth.sig.returnType = ret ∧ Q = MQ below (QA D n ad g (tyl cI cZ cB) post A) args s 0 0 A
def rmh (d : Nat) : Room := { frames := d, cells := 0, slots := 0, locals := 64 * d }
def PI (q : Int32 → Mem → Prop) : Option Value → Mem → Prop := fun v M => ∃ r : Int32, v = some (.int r) ∧ q r M
def PV (q : Mem → Prop) : Option Value → Mem → Prop := fun v M => v = none ∧ q M
/-- a method's contract at a memory -/
def AM (y : MethodName) (cc : ByteArray) (maxL : Nat) (ret : Option FieldType) (d n : Nat) (gl : (Nat → Nat) → ClassId → ClassId → ClassId → Lay) (av : (Nat → Nat) → List Value) (M : Mem) (post : Option Value → Mem → Prop) : Prop :=
  ∀ (l : Launch) (D : va_G) (cI cZ cB : ClassId) (ad : Nat → Nat) (sz : Nat), Met l y (UW y cc maxL ret) (rmh d) (va_Pc (av ad) (fun U => U.heap.size = sz ∧ va_P D cls11 (wl n ad (gl ad cI cZ cB) M) U.heap ∧ va_K D cls11 (tyl cI cZ cB) U ∧ va_D (fun _ => True) (wl n ad (gl ad cI cZ cB) M)))
    (QA D n ad (gl ad cI cZ cB) (tyl cI cZ cB) post (va_A (wl n ad (gl ad cI cZ cB) M) sz)) 0 0 (va_A (wl n ad (gl ad cI cZ cB) M) sz)
theorem wl_D {A : Nat → Prop} {n : Nat} {ad : Nat → Nat} {g : Lay} {M : Mem} (h : va_D A (wl n ad g M)) (M' : Mem) : va_D A (wl n ad g M') := by
  have key : ∀ (k : Nat) (q : Nat × va_E), (wl n ad g M')[k]? = some q → ∃ q0, (wl n ad g M)[k]? = some q0 ∧ q0.1 = q.1 := by
    intro k q hk
    have hn : k < n := by
      have := (List.getElem?_eq_some_iff.mp hk).1
      rwa [wl_len] at this
    rw [wl_at hn] at hk
    cases hk
    exact ⟨_, wl_at hn, rfl⟩
  refine ⟨fun i j x y hi hj hxy => ?_, fun k q hk => ?_⟩
  · obtain ⟨x0, h1, h2⟩ := key i x hi
    obtain ⟨y0, h3, h4⟩ := key j y hj
    exact h.1 i j x0 y0 h1 h3 (h2.trans (hxy.trans h4.symm))
  · obtain ⟨q0, h1, h2⟩ := key k q hk
    rw [← h2]
    exact h.2 k q0 h1
theorem wl_A {n : Nat} {ad : Nat → Nat} {g : Lay} {M M' : Mem} {sz q : Nat} (h : va_A (wl n ad g M) sz q) : va_A (wl n ad g M') sz q := by
  rcases h with ⟨k, e, h⟩ | h
  · have hn : k < n := by
      have := (List.getElem?_eq_some_iff.mp h).1
      rwa [wl_len] at this
    rw [wl_at hn] at h
    cases h
    exact Or.inl ⟨k, _, wl_at hn⟩
  · exact Or.inr h
theorem AM.of {y : MethodName} {cc : ByteArray} {maxL : Nat} {ret : Option FieldType} {d n : Nat} {gl : (Nat → Nat) → ClassId → ClassId → ClassId → Lay} {av : (Nat → Nat) → List Value} {M : Mem} {post : Option Value → Mem → Prop} (hy : plainName y.cls = true) (hn : ∀ ad, (lg_sl (av ad)).length ≤ maxL)
    (body : ∀ (X : CT) (ad : Nat → Nat) (cI cZ cB : ClassId), Ok X cc y.cls maxL n ad (gl ad cI cZ cB) cI cZ cB d → Ret X ret cI cZ cB post → V X M (lv_args 0 (av ad)) [] 0) : AM y cc maxL ret d n gl av M post := by
  intro l D cI cZ cB ad sz
  refine Met.ofW (cc := cc) (maxL := maxL) (ret := ret) hy rfl ?_
  intro p e s m args below meth c s₁ B hml hv
  obtain ⟨rfl, hsz, hP, hK, hD0⟩ := hv
  have hts := atoms_spec (ws := UW y cc maxL ret) B.pre
  have hown : s.vm.findClass y.cls = some m.cls := findClass_of_methodNamed B.named
  subst hsz
  have hD := hD0.self (sz := s.heap.size)
  have hl := lv_entry (av ad) (n := maxL) (hn ad)
  rw [lg_entry_eq]
  exact body (p, l, e, (headSpec (UW y cc maxL ret) (rmh d)).room, s, m, (av ad).toArray, below, meth, c, MQ below (QA D n ad (gl ad cI cZ cB) (tyl cI cZ cB) post (va_A (wl n ad (gl ad cI cZ cB) M) s.heap.size)) (av ad).toArray s 0 0 (va_A (wl n ad (gl ad cI cZ cB) M) s.heap.size), va_A (wl n ad (gl ad cI cZ cB) M) s.heap.size, D, n, ad, gl ad cI cZ cB, maxL) ad cI cZ cB
    ⟨B.exec, B.bytes, hml, hown, fun w hw => hts w (List.mem_cons_of_mem _ hw), hK, fun M' => wl_D hD M', rfl, rfl, rfl, rfl, ⟨Nat.le_refl _, Nat.le_refl _⟩, fun q h => Or.inr h, B.notSynchronized⟩ ⟨B.returns, rfl⟩ s.heap [] _ hP va_S.rf hl

set_option maxHeartbeats 1000000 in
theorem s_iconst {X : CT} {cc : ByteArray} {own : String} {nL n : Nat} {ad : Nat → Nat} {g : Lay} {cI cZ cB : ClassId} {d : Nat} {M : Mem} {lv : List (Nat × Value)} {st : List Value} {pc : Nat} (h : Ok X cc own nL n ad g cI cZ cB d) {i : Int} {v : Int32} (hd : decode cc pc = .ok (.iconst i, 1)) (hv : Int32.ofInt i = v) (k : V X M lv (.int v :: st) (pc + 1)) : V X M lv (st) pc := by
  obtain ⟨p, l, e, R, s, m, args, below, meth, c, Q, A, D, n', ad', g', nL'⟩ := X
  obtain ⟨hx, hb, hml, hown, hts, hK, hD, rfl, rfl, rfl, rfl, hroom, hA, hlk⟩ := h
  intro H locs ls hP hS hl
  exact lv_iconst hx hb hd hv (k H locs ls hP hS hl)

set_option maxHeartbeats 1000000 in
theorem s_bipush {X : CT} {cc : ByteArray} {own : String} {nL n : Nat} {ad : Nat → Nat} {g : Lay} {cI cZ cB : ClassId} {d : Nat} {M : Mem} {lv : List (Nat × Value)} {st : List Value} {pc : Nat} (h : Ok X cc own nL n ad g cI cZ cB d) {i : Int} {v : Int32} (hd : decode cc pc = .ok (.bipush i, 2)) (hv : (Int8.ofInt i).toInt32 = v) (k : V X M lv (.int v :: st) (pc + 2)) : V X M lv (st) pc := by
  obtain ⟨p, l, e, R, s, m, args, below, meth, c, Q, A, D, n', ad', g', nL'⟩ := X
  obtain ⟨hx, hb, hml, hown, hts, hK, hD, rfl, rfl, rfl, rfl, hroom, hA, hlk⟩ := h
  intro H locs ls hP hS hl
  exact lv_bipush hx hb hd hv (k H locs ls hP hS hl)

set_option maxHeartbeats 1000000 in
theorem s_sipush {X : CT} {cc : ByteArray} {own : String} {nL n : Nat} {ad : Nat → Nat} {g : Lay} {cI cZ cB : ClassId} {d : Nat} {M : Mem} {lv : List (Nat × Value)} {st : List Value} {pc : Nat} (h : Ok X cc own nL n ad g cI cZ cB d) {i : Int} {v : Int32} (hd : decode cc pc = .ok (.sipush i, 3)) (hv : (Int16.ofInt i).toInt32 = v) (k : V X M lv (.int v :: st) (pc + 3)) : V X M lv (st) pc := by
  obtain ⟨p, l, e, R, s, m, args, below, meth, c, Q, A, D, n', ad', g', nL'⟩ := X
  obtain ⟨hx, hb, hml, hown, hts, hK, hD, rfl, rfl, rfl, rfl, hroom, hA, hlk⟩ := h
  intro H locs ls hP hS hl
  exact lv_sipush hx hb hd hv (k H locs ls hP hS hl)

set_option maxHeartbeats 1000000 in
theorem s_lconst {X : CT} {cc : ByteArray} {own : String} {nL n : Nat} {ad : Nat → Nat} {g : Lay} {cI cZ cB : ClassId} {d : Nat} {M : Mem} {lv : List (Nat × Value)} {st : List Value} {pc : Nat} (h : Ok X cc own nL n ad g cI cZ cB d) {i : Fin 2} {v : Int64} (hd : decode cc pc = .ok (.lconst i, 1)) (hv : Int64.ofNat (i : Nat) = v) (k : V X M lv (.long v :: st) (pc + 1)) : V X M lv (st) pc := by
  obtain ⟨p, l, e, R, s, m, args, below, meth, c, Q, A, D, n', ad', g', nL'⟩ := X
  obtain ⟨hx, hb, hml, hown, hts, hK, hD, rfl, rfl, rfl, rfl, hroom, hA, hlk⟩ := h
  intro H locs ls hP hS hl
  exact lv_lconst hx hb hd hv (k H locs ls hP hS hl)

set_option maxHeartbeats 1000000 in
theorem s_iadd {X : CT} {cc : ByteArray} {own : String} {nL n : Nat} {ad : Nat → Nat} {g : Lay} {cI cZ cB : ClassId} {d : Nat} {M : Mem} {lv : List (Nat × Value)} {st : List Value} {pc : Nat} (h : Ok X cc own nL n ad g cI cZ cB d) {x y : Int32} (hd : decode cc pc = .ok (.iadd, 1))  (k : V X M lv (.int (x + y) :: st) (pc + 1)) : V X M lv (.int y :: .int x :: st) pc := by
  obtain ⟨p, l, e, R, s, m, args, below, meth, c, Q, A, D, n', ad', g', nL'⟩ := X
  obtain ⟨hx, hb, hml, hown, hts, hK, hD, rfl, rfl, rfl, rfl, hroom, hA, hlk⟩ := h
  intro H locs ls hP hS hl
  exact lv_iadd hx hb hd  (k H locs ls hP hS hl)

set_option maxHeartbeats 1000000 in
theorem s_isub {X : CT} {cc : ByteArray} {own : String} {nL n : Nat} {ad : Nat → Nat} {g : Lay} {cI cZ cB : ClassId} {d : Nat} {M : Mem} {lv : List (Nat × Value)} {st : List Value} {pc : Nat} (h : Ok X cc own nL n ad g cI cZ cB d) {x y : Int32} (hd : decode cc pc = .ok (.isub, 1))  (k : V X M lv (.int (x - y) :: st) (pc + 1)) : V X M lv (.int y :: .int x :: st) pc := by
  obtain ⟨p, l, e, R, s, m, args, below, meth, c, Q, A, D, n', ad', g', nL'⟩ := X
  obtain ⟨hx, hb, hml, hown, hts, hK, hD, rfl, rfl, rfl, rfl, hroom, hA, hlk⟩ := h
  intro H locs ls hP hS hl
  exact lv_isub hx hb hd  (k H locs ls hP hS hl)

set_option maxHeartbeats 1000000 in
theorem s_imul {X : CT} {cc : ByteArray} {own : String} {nL n : Nat} {ad : Nat → Nat} {g : Lay} {cI cZ cB : ClassId} {d : Nat} {M : Mem} {lv : List (Nat × Value)} {st : List Value} {pc : Nat} (h : Ok X cc own nL n ad g cI cZ cB d) {x y : Int32} (hd : decode cc pc = .ok (.imul, 1))  (k : V X M lv (.int (x * y) :: st) (pc + 1)) : V X M lv (.int y :: .int x :: st) pc := by
  obtain ⟨p, l, e, R, s, m, args, below, meth, c, Q, A, D, n', ad', g', nL'⟩ := X
  obtain ⟨hx, hb, hml, hown, hts, hK, hD, rfl, rfl, rfl, rfl, hroom, hA, hlk⟩ := h
  intro H locs ls hP hS hl
  exact lv_imul hx hb hd  (k H locs ls hP hS hl)

set_option maxHeartbeats 1000000 in
theorem s_iand {X : CT} {cc : ByteArray} {own : String} {nL n : Nat} {ad : Nat → Nat} {g : Lay} {cI cZ cB : ClassId} {d : Nat} {M : Mem} {lv : List (Nat × Value)} {st : List Value} {pc : Nat} (h : Ok X cc own nL n ad g cI cZ cB d) {x y : Int32} (hd : decode cc pc = .ok (.iand, 1))  (k : V X M lv (.int (x &&& y) :: st) (pc + 1)) : V X M lv (.int y :: .int x :: st) pc := by
  obtain ⟨p, l, e, R, s, m, args, below, meth, c, Q, A, D, n', ad', g', nL'⟩ := X
  obtain ⟨hx, hb, hml, hown, hts, hK, hD, rfl, rfl, rfl, rfl, hroom, hA, hlk⟩ := h
  intro H locs ls hP hS hl
  exact lv_iand hx hb hd  (k H locs ls hP hS hl)

set_option maxHeartbeats 1000000 in
theorem s_ior {X : CT} {cc : ByteArray} {own : String} {nL n : Nat} {ad : Nat → Nat} {g : Lay} {cI cZ cB : ClassId} {d : Nat} {M : Mem} {lv : List (Nat × Value)} {st : List Value} {pc : Nat} (h : Ok X cc own nL n ad g cI cZ cB d) {x y : Int32} (hd : decode cc pc = .ok (.ior, 1))  (k : V X M lv (.int (x ||| y) :: st) (pc + 1)) : V X M lv (.int y :: .int x :: st) pc := by
  obtain ⟨p, l, e, R, s, m, args, below, meth, c, Q, A, D, n', ad', g', nL'⟩ := X
  obtain ⟨hx, hb, hml, hown, hts, hK, hD, rfl, rfl, rfl, rfl, hroom, hA, hlk⟩ := h
  intro H locs ls hP hS hl
  exact lv_ior hx hb hd  (k H locs ls hP hS hl)

set_option maxHeartbeats 1000000 in
theorem s_ishl {X : CT} {cc : ByteArray} {own : String} {nL n : Nat} {ad : Nat → Nat} {g : Lay} {cI cZ cB : ClassId} {d : Nat} {M : Mem} {lv : List (Nat × Value)} {st : List Value} {pc : Nat} (h : Ok X cc own nL n ad g cI cZ cB d) {x y : Int32} (hd : decode cc pc = .ok (.ishl, 1))  (k : V X M lv (.int (x <<< (y &&& 31)) :: st) (pc + 1)) : V X M lv (.int y :: .int x :: st) pc := by
  obtain ⟨p, l, e, R, s, m, args, below, meth, c, Q, A, D, n', ad', g', nL'⟩ := X
  obtain ⟨hx, hb, hml, hown, hts, hK, hD, rfl, rfl, rfl, rfl, hroom, hA, hlk⟩ := h
  intro H locs ls hP hS hl
  exact lv_ishl hx hb hd  (k H locs ls hP hS hl)

set_option maxHeartbeats 1000000 in
theorem s_ishr {X : CT} {cc : ByteArray} {own : String} {nL n : Nat} {ad : Nat → Nat} {g : Lay} {cI cZ cB : ClassId} {d : Nat} {M : Mem} {lv : List (Nat × Value)} {st : List Value} {pc : Nat} (h : Ok X cc own nL n ad g cI cZ cB d) {x y : Int32} (hd : decode cc pc = .ok (.ishr, 1))  (k : V X M lv (.int (x >>> (y &&& 31)) :: st) (pc + 1)) : V X M lv (.int y :: .int x :: st) pc := by
  obtain ⟨p, l, e, R, s, m, args, below, meth, c, Q, A, D, n', ad', g', nL'⟩ := X
  obtain ⟨hx, hb, hml, hown, hts, hK, hD, rfl, rfl, rfl, rfl, hroom, hA, hlk⟩ := h
  intro H locs ls hP hS hl
  exact lv_ishr hx hb hd  (k H locs ls hP hS hl)

set_option maxHeartbeats 1000000 in
theorem s_idiv {X : CT} {cc : ByteArray} {own : String} {nL n : Nat} {ad : Nat → Nat} {g : Lay} {cI cZ cB : ClassId} {d : Nat} {M : Mem} {lv : List (Nat × Value)} {st : List Value} {pc : Nat} (h : Ok X cc own nL n ad g cI cZ cB d) {x y : Int32} (hd : decode cc pc = .ok (.idiv, 1)) (hne : ¬ y = 0) (k : V X M lv (.int (x / y) :: st) (pc + 1)) : V X M lv (.int y :: .int x :: st) pc := by
  obtain ⟨p, l, e, R, s, m, args, below, meth, c, Q, A, D, n', ad', g', nL'⟩ := X
  obtain ⟨hx, hb, hml, hown, hts, hK, hD, rfl, rfl, rfl, rfl, hroom, hA, hlk⟩ := h
  intro H locs ls hP hS hl
  exact lv_idiv hx hb hd hne (k H locs ls hP hS hl)

set_option maxHeartbeats 1000000 in
theorem s_irem {X : CT} {cc : ByteArray} {own : String} {nL n : Nat} {ad : Nat → Nat} {g : Lay} {cI cZ cB : ClassId} {d : Nat} {M : Mem} {lv : List (Nat × Value)} {st : List Value} {pc : Nat} (h : Ok X cc own nL n ad g cI cZ cB d) {x y : Int32} (hd : decode cc pc = .ok (.irem, 1)) (hne : ¬ y = 0) (k : V X M lv (.int (x - x / y * y) :: st) (pc + 1)) : V X M lv (.int y :: .int x :: st) pc := by
  obtain ⟨p, l, e, R, s, m, args, below, meth, c, Q, A, D, n', ad', g', nL'⟩ := X
  obtain ⟨hx, hb, hml, hown, hts, hK, hD, rfl, rfl, rfl, rfl, hroom, hA, hlk⟩ := h
  intro H locs ls hP hS hl
  exact lv_irem hx hb hd hne (k H locs ls hP hS hl)

set_option maxHeartbeats 1000000 in
theorem s_ineg {X : CT} {cc : ByteArray} {own : String} {nL n : Nat} {ad : Nat → Nat} {g : Lay} {cI cZ cB : ClassId} {d : Nat} {M : Mem} {lv : List (Nat × Value)} {st : List Value} {pc : Nat} (h : Ok X cc own nL n ad g cI cZ cB d) {x : Int32} (hd : decode cc pc = .ok (.ineg, 1))  (k : V X M lv (.int (-x) :: st) (pc + 1)) : V X M lv (.int x :: st) pc := by
  obtain ⟨p, l, e, R, s, m, args, below, meth, c, Q, A, D, n', ad', g', nL'⟩ := X
  obtain ⟨hx, hb, hml, hown, hts, hK, hD, rfl, rfl, rfl, rfl, hroom, hA, hlk⟩ := h
  intro H locs ls hP hS hl
  exact lv_ineg hx hb hd  (k H locs ls hP hS hl)

set_option maxHeartbeats 1000000 in
theorem s_i2b {X : CT} {cc : ByteArray} {own : String} {nL n : Nat} {ad : Nat → Nat} {g : Lay} {cI cZ cB : ClassId} {d : Nat} {M : Mem} {lv : List (Nat × Value)} {st : List Value} {pc : Nat} (h : Ok X cc own nL n ad g cI cZ cB d) {x v : Int32} (hd : decode cc pc = .ok (.i2b, 1)) (hv : x.toInt8.toInt32 = v) (k : V X M lv (.int v :: st) (pc + 1)) : V X M lv (.int x :: st) pc := by
  obtain ⟨p, l, e, R, s, m, args, below, meth, c, Q, A, D, n', ad', g', nL'⟩ := X
  obtain ⟨hx, hb, hml, hown, hts, hK, hD, rfl, rfl, rfl, rfl, hroom, hA, hlk⟩ := h
  intro H locs ls hP hS hl
  exact lv_i2b hx hb hd hv (k H locs ls hP hS hl)

set_option maxHeartbeats 1000000 in
theorem s_land {X : CT} {cc : ByteArray} {own : String} {nL n : Nat} {ad : Nat → Nat} {g : Lay} {cI cZ cB : ClassId} {d : Nat} {M : Mem} {lv : List (Nat × Value)} {st : List Value} {pc : Nat} (h : Ok X cc own nL n ad g cI cZ cB d) {x y : Int64} (hd : decode cc pc = .ok (.land, 1))  (k : V X M lv (.long (x &&& y) :: st) (pc + 1)) : V X M lv (.long y :: .long x :: st) pc := by
  obtain ⟨p, l, e, R, s, m, args, below, meth, c, Q, A, D, n', ad', g', nL'⟩ := X
  obtain ⟨hx, hb, hml, hown, hts, hK, hD, rfl, rfl, rfl, rfl, hroom, hA, hlk⟩ := h
  intro H locs ls hP hS hl
  exact lv_land hx hb hd  (k H locs ls hP hS hl)

set_option maxHeartbeats 1000000 in
theorem s_lor {X : CT} {cc : ByteArray} {own : String} {nL n : Nat} {ad : Nat → Nat} {g : Lay} {cI cZ cB : ClassId} {d : Nat} {M : Mem} {lv : List (Nat × Value)} {st : List Value} {pc : Nat} (h : Ok X cc own nL n ad g cI cZ cB d) {x y : Int64} (hd : decode cc pc = .ok (.lor, 1))  (k : V X M lv (.long (x ||| y) :: st) (pc + 1)) : V X M lv (.long y :: .long x :: st) pc := by
  obtain ⟨p, l, e, R, s, m, args, below, meth, c, Q, A, D, n', ad', g', nL'⟩ := X
  obtain ⟨hx, hb, hml, hown, hts, hK, hD, rfl, rfl, rfl, rfl, hroom, hA, hlk⟩ := h
  intro H locs ls hP hS hl
  exact lv_lor hx hb hd  (k H locs ls hP hS hl)

set_option maxHeartbeats 1000000 in
theorem s_lshl {X : CT} {cc : ByteArray} {own : String} {nL n : Nat} {ad : Nat → Nat} {g : Lay} {cI cZ cB : ClassId} {d : Nat} {M : Mem} {lv : List (Nat × Value)} {st : List Value} {pc : Nat} (h : Ok X cc own nL n ad g cI cZ cB d) {x v : Int64} {y : Int32} (hd : decode cc pc = .ok (.lshl, 1)) (hv : x <<< (y.toInt64 &&& 63) = v) (k : V X M lv (.long v :: st) (pc + 1)) : V X M lv (.int y :: .long x :: st) pc := by
  obtain ⟨p, l, e, R, s, m, args, below, meth, c, Q, A, D, n', ad', g', nL'⟩ := X
  obtain ⟨hx, hb, hml, hown, hts, hK, hD, rfl, rfl, rfl, rfl, hroom, hA, hlk⟩ := h
  intro H locs ls hP hS hl
  exact lv_lshl hx hb hd hv (k H locs ls hP hS hl)

set_option maxHeartbeats 1000000 in
theorem s_lshr {X : CT} {cc : ByteArray} {own : String} {nL n : Nat} {ad : Nat → Nat} {g : Lay} {cI cZ cB : ClassId} {d : Nat} {M : Mem} {lv : List (Nat × Value)} {st : List Value} {pc : Nat} (h : Ok X cc own nL n ad g cI cZ cB d) {x v : Int64} {y : Int32} (hd : decode cc pc = .ok (.lshr, 1)) (hv : x >>> (y.toInt64 &&& 63) = v) (k : V X M lv (.long v :: st) (pc + 1)) : V X M lv (.int y :: .long x :: st) pc := by
  obtain ⟨p, l, e, R, s, m, args, below, meth, c, Q, A, D, n', ad', g', nL'⟩ := X
  obtain ⟨hx, hb, hml, hown, hts, hK, hD, rfl, rfl, rfl, rfl, hroom, hA, hlk⟩ := h
  intro H locs ls hP hS hl
  exact lv_lshr hx hb hd hv (k H locs ls hP hS hl)

set_option maxHeartbeats 1000000 in
theorem s_lcmp {X : CT} {cc : ByteArray} {own : String} {nL n : Nat} {ad : Nat → Nat} {g : Lay} {cI cZ cB : ClassId} {d : Nat} {M : Mem} {lv : List (Nat × Value)} {st : List Value} {pc : Nat} (h : Ok X cc own nL n ad g cI cZ cB d) {x y : Int64} (hd : decode cc pc = .ok (.lcmp, 1))  (k : V X M lv (.int (lg_cmp x y) :: st) (pc + 1)) : V X M lv (.long y :: .long x :: st) pc := by
  obtain ⟨p, l, e, R, s, m, args, below, meth, c, Q, A, D, n', ad', g', nL'⟩ := X
  obtain ⟨hx, hb, hml, hown, hts, hK, hD, rfl, rfl, rfl, rfl, hroom, hA, hlk⟩ := h
  intro H locs ls hP hS hl
  exact W.lcmp hx hb hd  (k H locs ls hP hS hl)

set_option maxHeartbeats 1000000 in
theorem s_dup {X : CT} {cc : ByteArray} {own : String} {nL n : Nat} {ad : Nat → Nat} {g : Lay} {cI cZ cB : ClassId} {d : Nat} {M : Mem} {lv : List (Nat × Value)} {st : List Value} {pc : Nat} (h : Ok X cc own nL n ad g cI cZ cB d) {va : Value} (hd : decode cc pc = .ok (.dup, 1)) (hc : va.category = 1) (k : V X M lv (va :: va :: st) (pc + 1)) : V X M lv (va :: st) pc := by
  obtain ⟨p, l, e, R, s, m, args, below, meth, c, Q, A, D, n', ad', g', nL'⟩ := X
  obtain ⟨hx, hb, hml, hown, hts, hK, hD, rfl, rfl, rfl, rfl, hroom, hA, hlk⟩ := h
  intro H locs ls hP hS hl
  exact lv_dup hx hb hd hc (k H locs ls hP hS hl)

set_option maxHeartbeats 1000000 in
theorem s_pop {X : CT} {cc : ByteArray} {own : String} {nL n : Nat} {ad : Nat → Nat} {g : Lay} {cI cZ cB : ClassId} {d : Nat} {M : Mem} {lv : List (Nat × Value)} {st : List Value} {pc : Nat} (h : Ok X cc own nL n ad g cI cZ cB d) {va : Value} (hd : decode cc pc = .ok (.pop, 1)) (hc : va.category = 1) (k : V X M lv (st) (pc + 1)) : V X M lv (va :: st) pc := by
  obtain ⟨p, l, e, R, s, m, args, below, meth, c, Q, A, D, n', ad', g', nL'⟩ := X
  obtain ⟨hx, hb, hml, hown, hts, hK, hD, rfl, rfl, rfl, rfl, hroom, hA, hlk⟩ := h
  intro H locs ls hP hS hl
  exact lv_pop hx hb hd hc (k H locs ls hP hS hl)

set_option maxHeartbeats 1000000 in
theorem s_dup2 {X : CT} {cc : ByteArray} {own : String} {nL n : Nat} {ad : Nat → Nat} {g : Lay} {cI cZ cB : ClassId} {d : Nat} {M : Mem} {lv : List (Nat × Value)} {st : List Value} {pc : Nat} (h : Ok X cc own nL n ad g cI cZ cB d) {va vb : Value} (hd : decode cc pc = .ok (.dup2, 1)) (hc : va.category = 1) (hc2 : vb.category = 1) (k : V X M lv (va :: vb :: va :: vb :: st) (pc + 1)) : V X M lv (va :: vb :: st) pc := by
  obtain ⟨p, l, e, R, s, m, args, below, meth, c, Q, A, D, n', ad', g', nL'⟩ := X
  obtain ⟨hx, hb, hml, hown, hts, hK, hD, rfl, rfl, rfl, rfl, hroom, hA, hlk⟩ := h
  intro H locs ls hP hS hl
  exact lv_dup2_11 hx hb hd hc hc2 (k H locs ls hP hS hl)

set_option maxHeartbeats 1000000 in
theorem s_iload_n {X : CT} {cc : ByteArray} {own : String} {nL n : Nat} {ad : Nat → Nat} {g : Lay} {cI cZ cB : ClassId} {d : Nat} {M : Mem} {lv : List (Nat × Value)} {st : List Value} {pc : Nat} (h : Ok X cc own nL n ad g cI cZ cB d) {q : Fin 4} {i k : Nat} {x : Int32} (hd : decode cc pc = .ok (.iload_n q, 1)) (hi : (q : Nat) = i) (hk : lv[k]? = some (i, .int x)) (kk : V X M lv (.int x :: st) (pc + 1)) : V X M lv st pc := by
  obtain ⟨p, l, e, R, s, m, args, below, meth, c, Q, A, D, n', ad', g', nL'⟩ := X
  obtain ⟨hx, hb, hml, hown, hts, hK, hD, rfl, rfl, rfl, rfl, hroom, hA, hlk⟩ := h
  intro H locs ls hP hS hl
  exact lv_iload_n hx hb hd hi (lv_at hl k hk) (kk H locs ls hP hS hl)

set_option maxHeartbeats 1000000 in
theorem s_iload {X : CT} {cc : ByteArray} {own : String} {nL n : Nat} {ad : Nat → Nat} {g : Lay} {cI cZ cB : ClassId} {d : Nat} {M : Mem} {lv : List (Nat × Value)} {st : List Value} {pc : Nat} (h : Ok X cc own nL n ad g cI cZ cB d) {i k : Nat} {x : Int32} (hd : decode cc pc = .ok (.iload i, 2)) (hk : lv[k]? = some (i, .int x)) (kk : V X M lv (.int x :: st) (pc + 2)) : V X M lv st pc := by
  obtain ⟨p, l, e, R, s, m, args, below, meth, c, Q, A, D, n', ad', g', nL'⟩ := X
  obtain ⟨hx, hb, hml, hown, hts, hK, hD, rfl, rfl, rfl, rfl, hroom, hA, hlk⟩ := h
  intro H locs ls hP hS hl
  exact lv_iload hx hb hd (lv_at hl k hk) (kk H locs ls hP hS hl)

set_option maxHeartbeats 1000000 in
theorem s_lload_n {X : CT} {cc : ByteArray} {own : String} {nL n : Nat} {ad : Nat → Nat} {g : Lay} {cI cZ cB : ClassId} {d : Nat} {M : Mem} {lv : List (Nat × Value)} {st : List Value} {pc : Nat} (h : Ok X cc own nL n ad g cI cZ cB d) {q : Fin 4} {i k : Nat} {x : Int64} (hd : decode cc pc = .ok (.lload_n q, 1)) (hi : (q : Nat) = i) (hk : lv[k]? = some (i, .long x)) (kk : V X M lv (.long x :: st) (pc + 1)) : V X M lv st pc := by
  obtain ⟨p, l, e, R, s, m, args, below, meth, c, Q, A, D, n', ad', g', nL'⟩ := X
  obtain ⟨hx, hb, hml, hown, hts, hK, hD, rfl, rfl, rfl, rfl, hroom, hA, hlk⟩ := h
  intro H locs ls hP hS hl
  exact lv_lload_n hx hb hd hi (lv_at hl k hk) (kk H locs ls hP hS hl)

set_option maxHeartbeats 1000000 in
theorem s_lload {X : CT} {cc : ByteArray} {own : String} {nL n : Nat} {ad : Nat → Nat} {g : Lay} {cI cZ cB : ClassId} {d : Nat} {M : Mem} {lv : List (Nat × Value)} {st : List Value} {pc : Nat} (h : Ok X cc own nL n ad g cI cZ cB d) {i k : Nat} {x : Int64} (hd : decode cc pc = .ok (.lload i, 2)) (hk : lv[k]? = some (i, .long x)) (kk : V X M lv (.long x :: st) (pc + 2)) : V X M lv st pc := by
  obtain ⟨p, l, e, R, s, m, args, below, meth, c, Q, A, D, n', ad', g', nL'⟩ := X
  obtain ⟨hx, hb, hml, hown, hts, hK, hD, rfl, rfl, rfl, rfl, hroom, hA, hlk⟩ := h
  intro H locs ls hP hS hl
  exact lv_lload hx hb hd (lv_at hl k hk) (kk H locs ls hP hS hl)

set_option maxHeartbeats 1000000 in
theorem s_aload_n {X : CT} {cc : ByteArray} {own : String} {nL n : Nat} {ad : Nat → Nat} {g : Lay} {cI cZ cB : ClassId} {d : Nat} {M : Mem} {lv : List (Nat × Value)} {st : List Value} {pc : Nat} (h : Ok X cc own nL n ad g cI cZ cB d) {q : Fin 4} {i k : Nat} {x : Nat} (hd : decode cc pc = .ok (.aload_n q, 1)) (hi : (q : Nat) = i) (hk : lv[k]? = some (i, .ref x)) (kk : V X M lv (.ref x :: st) (pc + 1)) : V X M lv st pc := by
  obtain ⟨p, l, e, R, s, m, args, below, meth, c, Q, A, D, n', ad', g', nL'⟩ := X
  obtain ⟨hx, hb, hml, hown, hts, hK, hD, rfl, rfl, rfl, rfl, hroom, hA, hlk⟩ := h
  intro H locs ls hP hS hl
  exact lv_aload_n hx hb hd hi (lv_at hl k hk) (kk H locs ls hP hS hl)

set_option maxHeartbeats 1000000 in
theorem s_aload {X : CT} {cc : ByteArray} {own : String} {nL n : Nat} {ad : Nat → Nat} {g : Lay} {cI cZ cB : ClassId} {d : Nat} {M : Mem} {lv : List (Nat × Value)} {st : List Value} {pc : Nat} (h : Ok X cc own nL n ad g cI cZ cB d) {i k : Nat} {x : Nat} (hd : decode cc pc = .ok (.aload i, 2)) (hk : lv[k]? = some (i, .ref x)) (kk : V X M lv (.ref x :: st) (pc + 2)) : V X M lv st pc := by
  obtain ⟨p, l, e, R, s, m, args, below, meth, c, Q, A, D, n', ad', g', nL'⟩ := X
  obtain ⟨hx, hb, hml, hown, hts, hK, hD, rfl, rfl, rfl, rfl, hroom, hA, hlk⟩ := h
  intro H locs ls hP hS hl
  exact lv_aload hx hb hd (lv_at hl k hk) (kk H locs ls hP hS hl)

def lput (i : Nat) (v : Value) (lv : List (Nat × Value)) : List (Nat × Value) := lv.filter (fun q => !(q.1 == i) && !(q.1 + 1 == i && q.2.category == 2)) ++ [(i, v)]
theorem lput_has {ls : Array Slot} {nL i : Nat} {v : Value} {lv : List (Nat × Value)} (h : lv_has ls nL ((i, v) :: lv.filter (fun q => !(q.1 == i) && !(q.1 + 1 == i && q.2.category == 2)))) : lv_has ls nL (lput i v lv) := by
  refine ⟨h.1, h.2.1, fun q hq => h.2.2 q ?_⟩
  unfold lput at hq
  rcases List.mem_append.mp hq with hq | hq
  · exact List.mem_cons_of_mem _ hq
  · rw [List.mem_singleton.mp hq]
    exact List.mem_cons_self

set_option maxHeartbeats 1000000 in
theorem s_istore_n {X : CT} {cc : ByteArray} {own : String} {nL n : Nat} {ad : Nat → Nat} {g : Lay} {cI cZ cB : ClassId} {d : Nat} {M : Mem} {lv : List (Nat × Value)} {st : List Value} {pc : Nat} (h : Ok X cc own nL n ad g cI cZ cB d) {q : Fin 4} {i : Nat} {x : Int32} {lv' : List (Nat × Value)} (hd : decode cc pc = .ok (.istore_n q, 1)) (hi : (q : Nat) = i) (hn : i < nL) (hk : lput i (.int x) lv = lv') (kk : V X M lv' st (pc + 1)) : V X M lv (.int x :: st) pc := by
  obtain ⟨p, l, e, R, s, m, args, below, meth, c, Q, A, D, n', ad', g', nL'⟩ := X
  obtain ⟨hx, hb, hml, hown, hts, hK, hD, rfl, rfl, rfl, rfl, hroom, hA, hlk⟩ := h
  intro H locs ls hP hS hl
  exact lv_istore_n hx hb hd hi hl hn rfl (fun ls' hl' => kk H locs ls' hP hS (hk ▸ lput_has hl'))

set_option maxHeartbeats 1000000 in
theorem s_istore {X : CT} {cc : ByteArray} {own : String} {nL n : Nat} {ad : Nat → Nat} {g : Lay} {cI cZ cB : ClassId} {d : Nat} {M : Mem} {lv : List (Nat × Value)} {st : List Value} {pc : Nat} (h : Ok X cc own nL n ad g cI cZ cB d) {i : Nat} {x : Int32} {lv' : List (Nat × Value)} (hd : decode cc pc = .ok (.istore i, 2)) (hn : i < nL) (hk : lput i (.int x) lv = lv') (kk : V X M lv' st (pc + 2)) : V X M lv (.int x :: st) pc := by
  obtain ⟨p, l, e, R, s, m, args, below, meth, c, Q, A, D, n', ad', g', nL'⟩ := X
  obtain ⟨hx, hb, hml, hown, hts, hK, hD, rfl, rfl, rfl, rfl, hroom, hA, hlk⟩ := h
  intro H locs ls hP hS hl
  exact lv_istore hx hb hd hl hn rfl (fun ls' hl' => kk H locs ls' hP hS (hk ▸ lput_has hl'))

set_option maxHeartbeats 1000000 in
theorem s_astore_n {X : CT} {cc : ByteArray} {own : String} {nL n : Nat} {ad : Nat → Nat} {g : Lay} {cI cZ cB : ClassId} {d : Nat} {M : Mem} {lv : List (Nat × Value)} {st : List Value} {pc : Nat} (h : Ok X cc own nL n ad g cI cZ cB d) {q : Fin 4} {i : Nat} {x : Nat} {lv' : List (Nat × Value)} (hd : decode cc pc = .ok (.astore_n q, 1)) (hi : (q : Nat) = i) (hn : i < nL) (hk : lput i (.ref x) lv = lv') (kk : V X M lv' st (pc + 1)) : V X M lv (.ref x :: st) pc := by
  obtain ⟨p, l, e, R, s, m, args, below, meth, c, Q, A, D, n', ad', g', nL'⟩ := X
  obtain ⟨hx, hb, hml, hown, hts, hK, hD, rfl, rfl, rfl, rfl, hroom, hA, hlk⟩ := h
  intro H locs ls hP hS hl
  exact lv_astore_n hx hb hd hi hl hn rfl (fun ls' hl' => kk H locs ls' hP hS (hk ▸ lput_has hl'))

set_option maxHeartbeats 1000000 in
theorem s_astore {X : CT} {cc : ByteArray} {own : String} {nL n : Nat} {ad : Nat → Nat} {g : Lay} {cI cZ cB : ClassId} {d : Nat} {M : Mem} {lv : List (Nat × Value)} {st : List Value} {pc : Nat} (h : Ok X cc own nL n ad g cI cZ cB d) {i : Nat} {x : Nat} {lv' : List (Nat × Value)} (hd : decode cc pc = .ok (.astore i, 2)) (hn : i < nL) (hk : lput i (.ref x) lv = lv') (kk : V X M lv' st (pc + 2)) : V X M lv (.ref x :: st) pc := by
  obtain ⟨p, l, e, R, s, m, args, below, meth, c, Q, A, D, n', ad', g', nL'⟩ := X
  obtain ⟨hx, hb, hml, hown, hts, hK, hD, rfl, rfl, rfl, rfl, hroom, hA, hlk⟩ := h
  intro H locs ls hP hS hl
  exact lv_astore hx hb hd hl hn rfl (fun ls' hl' => kk H locs ls' hP hS (hk ▸ lput_has hl'))

set_option maxHeartbeats 1000000 in
theorem s_iinc {X : CT} {cc : ByteArray} {own : String} {nL n : Nat} {ad : Nat → Nat} {g : Lay} {cI cZ cB : ClassId} {d : Nat} {M : Mem} {lv : List (Nat × Value)} {st : List Value} {pc : Nat} (h : Ok X cc own nL n ad g cI cZ cB d) {i k : Nat} {c0 : Int} {x v : Int32} {lv' : List (Nat × Value)} (hd : decode cc pc = .ok (.iinc i c0, 3)) (hv : x + Int32.ofInt c0 = v) (hn : i < nL) (hk : lv[k]? = some (i, .int x)) (hk2 : lput i (.int v) lv = lv') (kk : V X M lv' st (pc + 3)) : V X M lv st pc := by
  obtain ⟨p, l, e, R, s, m, args, below, meth, c, Q, A, D, n', ad', g', nL'⟩ := X
  obtain ⟨hx, hb, hml, hown, hts, hK, hD, rfl, rfl, rfl, rfl, hroom, hA, hlk⟩ := h
  intro H locs ls hP hS hl
  exact lv_iinc hx hb hd hl hk hv hn rfl (fun ls' hl' => kk H locs ls' hP hS (hk2 ▸ lput_has hl'))

/-! branches -/

set_option maxHeartbeats 1000000 in
theorem s_goto {X : CT} {cc : ByteArray} {own : String} {nL n : Nat} {ad : Nat → Nat} {g : Lay} {cI cZ cB : ClassId} {d : Nat} {M : Mem} {lv : List (Nat × Value)} {st : List Value} {pc : Nat} (h : Ok X cc own nL n ad g cI cZ cB d) {off : Int} {tgt : Nat} (hd : decode cc pc = .ok (.goto off, 3)) (ht : (pc : Int) + off = (tgt : Int)) (k : V X M lv st tgt) : V X M lv st pc := by
  obtain ⟨p, l, e, R, s, m, args, below, meth, c, Q, A, D, n', ad', g', nL'⟩ := X
  obtain ⟨hx, hb, hml, hown, hts, hK, hD, rfl, rfl, rfl, rfl, hroom, hA, hlk⟩ := h
  intro H locs ls hP hS hl
  exact lv_goto hx hb hd ht (k H locs ls hP hS hl)

set_option maxHeartbeats 1000000 in
theorem s_ldc {X : CT} {cc : ByteArray} {own : String} {nL n : Nat} {ad : Nat → Nat} {g : Lay} {cI cZ cB : ClassId} {d : Nat} {M : Mem} {lv : List (Nat × Value)} {st : List Value} {pc : Nat} (h : Ok X cc own nL n ad g cI cZ cB d) {idx : Nat} {v : Int32} (hw : Cond.constant own idx v ∈ UL) (hd : decode cc pc = .ok (.ldc idx, 2)) (k : V X M lv (.int v :: st) (pc + 2)) : V X M lv st pc := by
  obtain ⟨p, l, e, R, s, m, args, below, meth, c, Q, A, D, n', ad', g', nL'⟩ := X
  obtain ⟨hx, hb, hml, hown, hts, hK, hD, rfl, rfl, rfl, rfl, hroom, hA, hlk⟩ := h
  intro H locs ls hP hS hl
  exact lv_ldc hx hb hown (hts _ hw) hd (k H locs ls hP hS hl)

set_option maxHeartbeats 1000000 in
theorem s_ldcw {X : CT} {cc : ByteArray} {own : String} {nL n : Nat} {ad : Nat → Nat} {g : Lay} {cI cZ cB : ClassId} {d : Nat} {M : Mem} {lv : List (Nat × Value)} {st : List Value} {pc : Nat} (h : Ok X cc own nL n ad g cI cZ cB d) {idx : Nat} {v : Int32} (hw : Cond.constant own idx v ∈ UL) (hd : decode cc pc = .ok (.ldc_w idx, 3)) (k : V X M lv (.int v :: st) (pc + 3)) : V X M lv st pc := by
  obtain ⟨p, l, e, R, s, m, args, below, meth, c, Q, A, D, n', ad', g', nL'⟩ := X
  obtain ⟨hx, hb, hml, hown, hts, hK, hD, rfl, rfl, rfl, rfl, hroom, hA, hlk⟩ := h
  intro H locs ls hP hS hl
  exact lv_ldcw hx hb hown (hts _ hw) hd (k H locs ls hP hS hl)

set_option maxHeartbeats 1000000 in
theorem s_tabIn {X : CT} {cc : ByteArray} {own : String} {nL n : Nat} {ad : Nat → Nat} {g : Lay} {cI cZ cB : ClassId} {d : Nat} {M : Mem} {lv : List (Nat × Value)} {st : List Value} {pc : Nat} (h : Ok X cc own nL n ad g cI cZ cB d) {dflt lo hi : Int} {offs : Array Int} {len : Nat} {x : Int32} {off : Int} {tgt : Nat} (hd : decode cc pc = .ok (.tableswitch dflt lo hi offs, len)) (h1 : ¬ x.toInt < lo) (h2 : ¬ hi < x.toInt) (ho : offs[(x.toInt - lo).toNat]? = some off) (ht : (pc : Int) + off = (tgt : Int)) (k : V X M lv st tgt) : V X M lv (.int x :: st) pc := by
  obtain ⟨p, l, e, R, s, m, args, below, meth, c, Q, A, D, n', ad', g', nL'⟩ := X
  obtain ⟨hx, hb, hml, hown, hts, hK, hD, rfl, rfl, rfl, rfl, hroom, hA, hlk⟩ := h
  intro H locs ls hP hS hl
  exact lv_tableIn hx hb hd h1 h2 ho ht (k H locs ls hP hS hl)

set_option maxHeartbeats 1000000 in
theorem s_tabOut {X : CT} {cc : ByteArray} {own : String} {nL n : Nat} {ad : Nat → Nat} {g : Lay} {cI cZ cB : ClassId} {d : Nat} {M : Mem} {lv : List (Nat × Value)} {st : List Value} {pc : Nat} (h : Ok X cc own nL n ad g cI cZ cB d) {dflt lo hi : Int} {offs : Array Int} {len : Nat} {x : Int32} {tgt : Nat} (hd : decode cc pc = .ok (.tableswitch dflt lo hi offs, len)) (h1 : x.toInt < lo ∨ hi < x.toInt) (ht : (pc : Int) + dflt = (tgt : Int)) (k : V X M lv st tgt) : V X M lv (.int x :: st) pc := by
  obtain ⟨p, l, e, R, s, m, args, below, meth, c, Q, A, D, n', ad', g', nL'⟩ := X
  obtain ⟨hx, hb, hml, hown, hts, hK, hD, rfl, rfl, rfl, rfl, hroom, hA, hlk⟩ := h
  intro H locs ls hP hS hl
  exact lv_tableOut hx hb hd h1 ht (k H locs ls hP hS hl)

set_option maxHeartbeats 1000000 in
theorem s_lookup {X : CT} {cc : ByteArray} {own : String} {nL n : Nat} {ad : Nat → Nat} {g : Lay} {cI cZ cB : ClassId} {d : Nat} {M : Mem} {lv : List (Nat × Value)} {st : List Value} {pc : Nat} (h : Ok X cc own nL n ad g cI cZ cB d) {dflt : Int} {ps : Array (Int × Int)} {len : Nat} {x : Int32} {off : Int} {tgt : Nat} (hd : decode cc pc = .ok (.lookupswitch dflt ps, len)) (hp : (ps.toList.zip (ps.toList.drop 1)).all (fun (a, next) => a.1 < next.1) = true) (ho : Op.lookupswitch.offset ps.toList dflt x.toInt = off) (ht : (pc : Int) + off = (tgt : Int)) (k : V X M lv st tgt) : V X M lv (.int x :: st) pc := by
  obtain ⟨p, l, e, R, s, m, args, below, meth, c, Q, A, D, n', ad', g', nL'⟩ := X
  obtain ⟨hx, hb, hml, hown, hts, hK, hD, rfl, rfl, rfl, rfl, hroom, hA, hlk⟩ := h
  intro H locs ls hP hS hl
  exact lv_lookup hx hb hd hp ho ht (k H locs ls hP hS hl)

/-- cell k is an array of ints (booleans, bytes) of length len -/
def IA (g : Lay) (n k : Nat) (c : ClassId) (len : Nat) : Prop := k < n ∧ ∀ f, g k f = .inl (c, len, .inl f)
/-- cell k is an object of class ci with fields fs -/
def OB (g : Lay) (n k ci : Nat) (fs : (Nat → Int32) → List Value) : Prop := k < n ∧ ∀ f, g k f = .inr (ci, fs f)
theorem IA.at {g : Lay} {n k : Nat} {c : ClassId} {len : Nat} (h : IA g n k c len) {ad : Nat → Nat} {M : Mem} : (wl n ad g M)[k]? = some (ad k, .inl (c, len, .inl (M k))) := by rw [wl_at h.1, h.2]
theorem OB.at {g : Lay} {n k ci : Nat} {fs : (Nat → Int32) → List Value} (h : OB g n k ci fs) {ad : Nat → Nat} {M : Mem} : (wl n ad g M)[k]? = some (ad k, .inr (ci, fs (M k))) := by rw [wl_at h.1, h.2]

set_option maxHeartbeats 1000000 in
theorem s_iald {X : CT} {cc : ByteArray} {own : String} {nL n : Nat} {ad : Nat → Nat} {g : Lay} {cI cZ cB : ClassId} {d : Nat} {M : Mem} {lv : List (Nat × Value)} {st : List Value} {pc : Nat} (h : Ok X cc own nL n ad g cI cZ cB d) {k len : Nat} {i : Int32} (ha : IA g n k cI len) (hin : vp_in i len) (hd : decode cc pc = .ok (.iaload, 1)) (kk : V X M lv (.int (M k i.toNatClampNeg) :: st) (pc + 1)) : V X M lv (.int i :: .ref (ad k) :: st) pc := by
  obtain ⟨p, l, e, R, s, m, args, below, meth, c, Q, A, D, n', ad', g', nL'⟩ := X
  obtain ⟨hx, hb, hml, hown, hts, hK, hD, rfl, rfl, rfl, rfl, hroom, hA, hlk⟩ := h
  intro H locs ls hP hS hl
  exact va_iald hx hb hK hP k 0 ha.at rfl hin hd (kk H locs ls hP hS hl)

set_option maxHeartbeats 1000000 in
theorem s_zald {X : CT} {cc : ByteArray} {own : String} {nL n : Nat} {ad : Nat → Nat} {g : Lay} {cI cZ cB : ClassId} {d : Nat} {M : Mem} {lv : List (Nat × Value)} {st : List Value} {pc : Nat} (h : Ok X cc own nL n ad g cI cZ cB d) {k len : Nat} {i : Int32} (ha : IA g n k cZ len) (hin : vp_in i len) (hd : decode cc pc = .ok (.baload, 1)) (kk : V X M lv (.int (M k i.toNatClampNeg) :: st) (pc + 1)) : V X M lv (.int i :: .ref (ad k) :: st) pc := by
  obtain ⟨p, l, e, R, s, m, args, below, meth, c, Q, A, D, n', ad', g', nL'⟩ := X
  obtain ⟨hx, hb, hml, hown, hts, hK, hD, rfl, rfl, rfl, rfl, hroom, hA, hlk⟩ := h
  intro H locs ls hP hS hl
  exact va_zald hx hb hK hP k 1 ha.at rfl hin hd (kk H locs ls hP hS hl)

set_option maxHeartbeats 1000000 in
theorem s_bald {X : CT} {cc : ByteArray} {own : String} {nL n : Nat} {ad : Nat → Nat} {g : Lay} {cI cZ cB : ClassId} {d : Nat} {M : Mem} {lv : List (Nat × Value)} {st : List Value} {pc : Nat} (h : Ok X cc own nL n ad g cI cZ cB d) {k len : Nat} {i : Int32} (ha : IA g n k cB len) (hin : vp_in i len) (hd : decode cc pc = .ok (.baload, 1)) (kk : V X M lv (.int (M k i.toNatClampNeg) :: st) (pc + 1)) : V X M lv (.int i :: .ref (ad k) :: st) pc := by
  obtain ⟨p, l, e, R, s, m, args, below, meth, c, Q, A, D, n', ad', g', nL'⟩ := X
  obtain ⟨hx, hb, hml, hown, hts, hK, hD, rfl, rfl, rfl, rfl, hroom, hA, hlk⟩ := h
  intro H locs ls hP hS hl
  exact va_bald hx hb hK hP k 2 ha.at rfl hin hd (kk H locs ls hP hS hl)

set_option maxHeartbeats 1000000 in
theorem s_iast {X : CT} {cc : ByteArray} {own : String} {nL n : Nat} {ad : Nat → Nat} {g : Lay} {cI cZ cB : ClassId} {d : Nat} {M : Mem} {lv : List (Nat × Value)} {st : List Value} {pc : Nat} (h : Ok X cc own nL n ad g cI cZ cB d) {k len : Nat} {i x : Int32} (ha : IA g n k cI len) (hin : vp_in i len) (hd : decode cc pc = .ok (.iastore, 1)) (kk : V X (mset M k i.toNatClampNeg x) lv st (pc + 1)) : V X M lv (.int x :: .int i :: .ref (ad k) :: st) pc := by
  obtain ⟨p, l, e, R, s, m, args, below, meth, c, Q, A, D, n', ad', g', nL'⟩ := X
  obtain ⟨hx, hb, hml, hown, hts, hK, hD, rfl, rfl, rfl, rfl, hroom, hA, hlk⟩ := h
  intro H locs ls hP hS hl
  refine va_iast hx hb hK hP (hD M) hS k 0 ha.at rfl hin hd (fun H1 locs1 hP1 hD1 hS1 => kk H1 locs1 ls ?_ hS1 hl)
  rw [← wl_set ha.1, ha.2]
  exact hP1

set_option maxHeartbeats 1000000 in
theorem s_zast {X : CT} {cc : ByteArray} {own : String} {nL n : Nat} {ad : Nat → Nat} {g : Lay} {cI cZ cB : ClassId} {d : Nat} {M : Mem} {lv : List (Nat × Value)} {st : List Value} {pc : Nat} (h : Ok X cc own nL n ad g cI cZ cB d) {k len : Nat} {i x : Int32} (ha : IA g n k cZ len) (hin : vp_in i len) (hd : decode cc pc = .ok (.bastore, 1)) (kk : V X (mset M k i.toNatClampNeg (vp_nar .boolean x)) lv st (pc + 1)) : V X M lv (.int x :: .int i :: .ref (ad k) :: st) pc := by
  obtain ⟨p, l, e, R, s, m, args, below, meth, c, Q, A, D, n', ad', g', nL'⟩ := X
  obtain ⟨hx, hb, hml, hown, hts, hK, hD, rfl, rfl, rfl, rfl, hroom, hA, hlk⟩ := h
  intro H locs ls hP hS hl
  refine va_zast hx hb hK hP (hD M) hS k 1 ha.at rfl hin hd (fun H1 locs1 hP1 hD1 hS1 => kk H1 locs1 ls ?_ hS1 hl)
  rw [← wl_set ha.1, ha.2]
  exact hP1

set_option maxHeartbeats 1000000 in
theorem s_bast {X : CT} {cc : ByteArray} {own : String} {nL n : Nat} {ad : Nat → Nat} {g : Lay} {cI cZ cB : ClassId} {d : Nat} {M : Mem} {lv : List (Nat × Value)} {st : List Value} {pc : Nat} (h : Ok X cc own nL n ad g cI cZ cB d) {k len : Nat} {i x : Int32} (ha : IA g n k cB len) (hin : vp_in i len) (hd : decode cc pc = .ok (.bastore, 1)) (kk : V X (mset M k i.toNatClampNeg (vp_nar .byte x)) lv st (pc + 1)) : V X M lv (.int x :: .int i :: .ref (ad k) :: st) pc := by
  obtain ⟨p, l, e, R, s, m, args, below, meth, c, Q, A, D, n', ad', g', nL'⟩ := X
  obtain ⟨hx, hb, hml, hown, hts, hK, hD, rfl, rfl, rfl, rfl, hroom, hA, hlk⟩ := h
  intro H locs ls hP hS hl
  refine va_bast hx hb hK hP (hD M) hS k 2 ha.at rfl hin hd (fun H1 locs1 hP1 hD1 hS1 => kk H1 locs1 ls ?_ hS1 hl)
  rw [← wl_set ha.1, ha.2]
  exact hP1

set_option maxHeartbeats 1000000 in
theorem s_ialdN {X : CT} {cc : ByteArray} {own : String} {nL n : Nat} {ad : Nat → Nat} {g : Lay} {cI cZ cB : ClassId} {d : Nat} {M : Mem} {lv : List (Nat × Value)} {st : List Value} {pc : Nat} (h : Ok X cc own nL n ad g cI cZ cB d) {k len i : Nat} (ha : IA g n k cI len) (hin : i < len) (hd : decode cc pc = .ok (.iaload, 1)) (kk : V X M lv (.int (M k i) :: st) (pc + 1)) (hlen : len < 2 ^ 31 := by decide) : V X M lv (.int (nI i) :: .ref (ad k) :: st) pc := by
  obtain ⟨p, l, e, R, s, m, args, below, meth, c, Q, A, D, n', ad', g', nL'⟩ := X
  obtain ⟨hx, hb, hml, hown, hts, hK, hD, rfl, rfl, rfl, rfl, hroom, hA, hlk⟩ := h
  intro H locs ls hP hS hl
  exact va_iald hx hb hK hP k 0 ha.at rfl (vp_in_nI hin hlen) hd (by rw [nI_clamp (Nat.lt_trans hin hlen)]; exact kk H locs ls hP hS hl)

set_option maxHeartbeats 1000000 in
theorem s_zaldN {X : CT} {cc : ByteArray} {own : String} {nL n : Nat} {ad : Nat → Nat} {g : Lay} {cI cZ cB : ClassId} {d : Nat} {M : Mem} {lv : List (Nat × Value)} {st : List Value} {pc : Nat} (h : Ok X cc own nL n ad g cI cZ cB d) {k len i : Nat} (ha : IA g n k cZ len) (hin : i < len) (hd : decode cc pc = .ok (.baload, 1)) (kk : V X M lv (.int (M k i) :: st) (pc + 1)) (hlen : len < 2 ^ 31 := by decide) : V X M lv (.int (nI i) :: .ref (ad k) :: st) pc := by
  obtain ⟨p, l, e, R, s, m, args, below, meth, c, Q, A, D, n', ad', g', nL'⟩ := X
  obtain ⟨hx, hb, hml, hown, hts, hK, hD, rfl, rfl, rfl, rfl, hroom, hA, hlk⟩ := h
  intro H locs ls hP hS hl
  exact va_zald hx hb hK hP k 1 ha.at rfl (vp_in_nI hin hlen) hd (by rw [nI_clamp (Nat.lt_trans hin hlen)]; exact kk H locs ls hP hS hl)

set_option maxHeartbeats 1000000 in
theorem s_baldN {X : CT} {cc : ByteArray} {own : String} {nL n : Nat} {ad : Nat → Nat} {g : Lay} {cI cZ cB : ClassId} {d : Nat} {M : Mem} {lv : List (Nat × Value)} {st : List Value} {pc : Nat} (h : Ok X cc own nL n ad g cI cZ cB d) {k len i : Nat} (ha : IA g n k cB len) (hin : i < len) (hd : decode cc pc = .ok (.baload, 1)) (kk : V X M lv (.int (M k i) :: st) (pc + 1)) (hlen : len < 2 ^ 31 := by decide) : V X M lv (.int (nI i) :: .ref (ad k) :: st) pc := by
  obtain ⟨p, l, e, R, s, m, args, below, meth, c, Q, A, D, n', ad', g', nL'⟩ := X
  obtain ⟨hx, hb, hml, hown, hts, hK, hD, rfl, rfl, rfl, rfl, hroom, hA, hlk⟩ := h
  intro H locs ls hP hS hl
  exact va_bald hx hb hK hP k 2 ha.at rfl (vp_in_nI hin hlen) hd (by rw [nI_clamp (Nat.lt_trans hin hlen)]; exact kk H locs ls hP hS hl)

set_option maxHeartbeats 1000000 in
theorem s_iastN {X : CT} {cc : ByteArray} {own : String} {nL n : Nat} {ad : Nat → Nat} {g : Lay} {cI cZ cB : ClassId} {d : Nat} {M : Mem} {lv : List (Nat × Value)} {st : List Value} {pc : Nat} (h : Ok X cc own nL n ad g cI cZ cB d) {k len i : Nat} {x : Int32} (ha : IA g n k cI len) (hin : i < len) (hd : decode cc pc = .ok (.iastore, 1)) (kk : V X (mset M k i x) lv st (pc + 1)) (hlen : len < 2 ^ 31 := by decide) : V X M lv (.int x :: .int (nI i) :: .ref (ad k) :: st) pc := by
  obtain ⟨p, l, e, R, s, m, args, below, meth, c, Q, A, D, n', ad', g', nL'⟩ := X
  obtain ⟨hx, hb, hml, hown, hts, hK, hD, rfl, rfl, rfl, rfl, hroom, hA, hlk⟩ := h
  intro H locs ls hP hS hl
  refine va_iast hx hb hK hP (hD M) hS k 0 ha.at rfl (vp_in_nI hin hlen) hd (fun H1 locs1 hP1 hD1 hS1 => kk H1 locs1 ls ?_ hS1 hl)
  rw [nI_clamp (Nat.lt_trans hin hlen)] at hP1
  rw [← wl_set ha.1, ha.2]
  exact hP1

set_option maxHeartbeats 1000000 in
theorem s_zastN {X : CT} {cc : ByteArray} {own : String} {nL n : Nat} {ad : Nat → Nat} {g : Lay} {cI cZ cB : ClassId} {d : Nat} {M : Mem} {lv : List (Nat × Value)} {st : List Value} {pc : Nat} (h : Ok X cc own nL n ad g cI cZ cB d) {k len i : Nat} {x : Int32} (ha : IA g n k cZ len) (hin : i < len) (hd : decode cc pc = .ok (.bastore, 1)) (kk : V X (mset M k i (vp_nar .boolean x)) lv st (pc + 1)) (hlen : len < 2 ^ 31 := by decide) : V X M lv (.int x :: .int (nI i) :: .ref (ad k) :: st) pc := by
  obtain ⟨p, l, e, R, s, m, args, below, meth, c, Q, A, D, n', ad', g', nL'⟩ := X
  obtain ⟨hx, hb, hml, hown, hts, hK, hD, rfl, rfl, rfl, rfl, hroom, hA, hlk⟩ := h
  intro H locs ls hP hS hl
  refine va_zast hx hb hK hP (hD M) hS k 1 ha.at rfl (vp_in_nI hin hlen) hd (fun H1 locs1 hP1 hD1 hS1 => kk H1 locs1 ls ?_ hS1 hl)
  rw [nI_clamp (Nat.lt_trans hin hlen)] at hP1
  rw [← wl_set ha.1, ha.2]
  exact hP1

set_option maxHeartbeats 1000000 in
theorem s_bastN {X : CT} {cc : ByteArray} {own : String} {nL n : Nat} {ad : Nat → Nat} {g : Lay} {cI cZ cB : ClassId} {d : Nat} {M : Mem} {lv : List (Nat × Value)} {st : List Value} {pc : Nat} (h : Ok X cc own nL n ad g cI cZ cB d) {k len i : Nat} {x : Int32} (ha : IA g n k cB len) (hin : i < len) (hd : decode cc pc = .ok (.bastore, 1)) (kk : V X (mset M k i (vp_nar .byte x)) lv st (pc + 1)) (hlen : len < 2 ^ 31 := by decide) : V X M lv (.int x :: .int (nI i) :: .ref (ad k) :: st) pc := by
  obtain ⟨p, l, e, R, s, m, args, below, meth, c, Q, A, D, n', ad', g', nL'⟩ := X
  obtain ⟨hx, hb, hml, hown, hts, hK, hD, rfl, rfl, rfl, rfl, hroom, hA, hlk⟩ := h
  intro H locs ls hP hS hl
  refine va_bast hx hb hK hP (hD M) hS k 2 ha.at rfl (vp_in_nI hin hlen) hd (fun H1 locs1 hP1 hD1 hS1 => kk H1 locs1 ls ?_ hS1 hl)
  rw [nI_clamp (Nat.lt_trans hin hlen)] at hP1
  rw [← wl_set ha.1, ha.2]
  exact hP1

set_option maxHeartbeats 1000000 in
theorem s_loc {X : CT} {M : Mem} {lv lv' : List (Nat × Value)} {st : List Value} {pc : Nat} (ks : List Nat) (h : lv_pick lv ks = lv') (k : V X M lv' st pc) : V X M lv st pc := by
  obtain ⟨p, l, e, R, s, m, args, below, meth, c, Q, A, D, n', ad', g', nL'⟩ := X
  intro H locs ls hP hS hl
  exact k H locs ls hP hS (lv_sub hl ks h)
set_option maxHeartbeats 1000000 in
theorem s_topr {X : CT} {M : Mem} {lv : List (Nat × Value)} {st : List Value} {pc a b : Nat} (e : a = b) (k : V X M lv (.ref b :: st) pc) : V X M lv (.ref a :: st) pc := e ▸ k
set_option maxHeartbeats 1000000 in
theorem s_alen {X : CT} {cc : ByteArray} {own : String} {nL n : Nat} {ad : Nat → Nat} {g : Lay} {cI cZ cB : ClassId} {d : Nat} {M : Mem} {lv : List (Nat × Value)} {st : List Value} {pc : Nat} (h : Ok X cc own nL n ad g cI cZ cB d) {k len : Nat} {v : Int32} (ha : IA g n k cI len) (hv : Int32.ofNat len = v) (hd : decode cc pc = .ok (.arraylength, 1)) (kk : V X M lv (.int v :: st) (pc + 1)) : V X M lv (.ref (ad k) :: st) pc := by
  obtain ⟨p, l, e, R, s, m, args, below, meth, c, Q, A, D, n', ad', g', nL'⟩ := X
  obtain ⟨hx, hb, hml, hown, hts, hK, hD, rfl, rfl, rfl, rfl, hroom, hA, hlk⟩ := h
  intro H locs ls hP hS hl
  exact va_alen hx hb hK hP k 0 ha.at rfl hv hd (kk H locs ls hP hS hl)

set_option maxHeartbeats 1000000 in
theorem s_get {X : CT} {cc : ByteArray} {own : String} {nL n : Nat} {ad : Nat → Nat} {g : Lay} {cI cZ cB : ClassId} {d : Nat} {M : Mem} {lv : List (Nat × Value)} {st : List Value} {pc : Nat} (h : Ok X cc own nL n ad g cI cZ cB d) {idx ci j k : Nat} {v : Value} {fs : (Nat → Int32) → List Value} (hf : FL own idx ci j) (ho : OB g n k ci fs) (hv : (fs (M k))[j]? = some v) (hd : decode cc pc = .ok (.getfield idx, 3)) (kk : V X M lv (v :: st) (pc + 3)) : V X M lv (.ref (ad k) :: st) pc := by
  obtain ⟨p, l, e, R, s, m, args, below, meth, c, Q, A, D, n', ad', g', nL'⟩ := X
  obtain ⟨hx, hb, hml, hown, hts, hK, hD, rfl, rfl, rfl, rfl, hroom, hA, hlk⟩ := h
  intro H locs ls hP hS hl
  obtain ⟨⟨C, T, N⟩, hc, hj, hw⟩ := hf
  exact va_get (C := C) (T := T) (N := N) hx hb hts (cls_in ci _ hc) hown hK hP k ho.at hc j hj (hts _ hw) (fun _ h9 => h9) hv hd (kk H locs ls hP hS hl)

set_option maxHeartbeats 1000000 in
theorem s_put {X : CT} {cc : ByteArray} {own : String} {nL n : Nat} {ad : Nat → Nat} {g : Lay} {cI cZ cB : ClassId} {d : Nat} {M : Mem} {lv : List (Nat × Value)} {st : List Value} {pc : Nat} (h : Ok X cc own nL n ad g cI cZ cB d) {idx ci j k : Nat} {v : Value} {x : Int32} {ty : FieldType} {fs : (Nat → Int32) → List Value} (hf : FL own idx ci j) (ho : OB g n k ci fs) (hs : (fs (M k)).set j v = fs (upd (M k) j x)) (hl0 : j < (fs (M k)).length) (hty : ∀ q : vw_C, cls11[ci]? = some q → (q.2.1 j).2.2.2 = false ∧ parseFieldDescriptor (q.2.1 j).2.2.1 = some ty) (hnr : narrow ty v = v) (hft : fits ty v = true) (hd : decode cc pc = .ok (.putfield idx, 3)) (kk : V X (mset M k j x) lv st (pc + 3)) : V X M lv (v :: .ref (ad k) :: st) pc := by
  obtain ⟨p, l, e, R, s, m, args, below, meth, c, Q, A, D, n', ad', g', nL'⟩ := X
  obtain ⟨hx, hb, hml, hown, hts, hK, hD, rfl, rfl, rfl, rfl, hroom, hA, hlk⟩ := h
  intro H locs ls hP hS hl
  obtain ⟨⟨C, T, N⟩, hc, hj, hw⟩ := hf
  obtain ⟨ty0, hty0⟩ := cls_ty ci _ hc
  refine va_put (C := C) (T := T) (N := N) hx hb hts (cls_in ci _ hc) ty0 hty0 (cls_nm ci _ hc) hown hK hP (hD M) hS k ho.at hc j hj (hts _ hw) (fun _ h9 => h9) (hty _ hc).1 (hty _ hc).2 hnr hft hl0 hd (fun H1 locs1 hP1 hD1 hS1 => kk H1 locs1 ls ?_ hS1 hl)
  rw [← wl_set ho.1, ho.2, ← hs]
  exact hP1

set_option maxHeartbeats 1000000 in
theorem s_puti {X : CT} {cc : ByteArray} {own : String} {nL n : Nat} {ad : Nat → Nat} {g : Lay} {cI cZ cB : ClassId} {d : Nat} {M : Mem} {lv : List (Nat × Value)} {st : List Value} {pc : Nat} (h : Ok X cc own nL n ad g cI cZ cB d) {idx ci j k : Nat} {x : Int32} {ty : FieldType} {fs : (Nat → Int32) → List Value} (hf : FL own idx ci j) (ho : OB g n k ci fs) (hs : (fs (M k)).set j (.int x) = fs (upd (M k) j x)) (hl0 : j < (fs (M k)).length) (hty : ∀ q : vw_C, cls11[ci]? = some q → (q.2.1 j).2.2.2 = false ∧ parseFieldDescriptor (q.2.1 j).2.2.1 = some ty) (hnr : narrow ty (.int x) = .int x) (hft : fits ty (.int x) = true) (hd : decode cc pc = .ok (.putfield idx, 3)) (kk : V X (mset M k j x) lv st (pc + 3)) : V X M lv (.int x :: .ref (ad k) :: st) pc := s_put h hf ho hs hl0 hty hnr hft hd kk
set_option maxHeartbeats 1000000 in
theorem s_iret {X : CT} {cc : ByteArray} {own : String} {nL n : Nat} {ad : Nat → Nat} {g : Lay} {cI cZ cB : ClassId} {d : Nat} {M : Mem} {lv : List (Nat × Value)} {pc : Nat} (h : Ok X cc own nL n ad g cI cZ cB d) {q : Int32 → Mem → Prop} {v : Int32} (hr : Ret X (some .int) cI cZ cB (PI q)) (hd : decode cc pc = .ok (.ireturn, 1)) (hp : q v M) : V X M lv [.int v] pc := by
  obtain ⟨p, l, e, R, s, m, args, below, meth, c, Q, A, D, n', ad', g', nL'⟩ := X
  obtain ⟨hx, hb, hml, hown, hts, hK, hD, rfl, rfl, rfl, rfl, hroom, hA, hlk⟩ := h
  intro H locs ls hP hS hl
  obtain ⟨hr1, rfl⟩ := hr
  exact W.iret (v := v) hx hb hr1 (fun t ht hW => ⟨⟨_, M, rfl, ⟨v, rfl, hp⟩, by rw [ht]; exact hP, va_K.moved hW.alike hK⟩, hS.F ht⟩) hS.2.2 hd hlk

set_option maxHeartbeats 1000000 in
theorem s_zret {X : CT} {cc : ByteArray} {own : String} {nL n : Nat} {ad : Nat → Nat} {g : Lay} {cI cZ cB : ClassId} {d : Nat} {M : Mem} {lv : List (Nat × Value)} {pc : Nat} (h : Ok X cc own nL n ad g cI cZ cB d) {q : Int32 → Mem → Prop} {v : Int32} (hr : Ret X (some .boolean) cI cZ cB (PI q)) (hd : decode cc pc = .ok (.ireturn, 1)) (hz : v = 0 ∨ v = 1) (hp : q v M) : V X M lv [.int v] pc := by
  obtain ⟨p, l, e, R, s, m, args, below, meth, c, Q, A, D, n', ad', g', nL'⟩ := X
  obtain ⟨hx, hb, hml, hown, hts, hK, hD, rfl, rfl, rfl, rfl, hroom, hA, hlk⟩ := h
  intro H locs ls hP hS hl
  obtain ⟨hr1, rfl⟩ := hr
  exact W.zret (v := v) hx hb hr1 (by rcases hz with rfl | rfl <;> rfl) (fun t ht hW => ⟨⟨_, M, rfl, ⟨v, rfl, hp⟩, by rw [ht]; exact hP, va_K.moved hW.alike hK⟩, hS.F ht⟩) hS.2.2 hd hlk

set_option maxHeartbeats 1000000 in
theorem s_vret {X : CT} {cc : ByteArray} {own : String} {nL n : Nat} {ad : Nat → Nat} {g : Lay} {cI cZ cB : ClassId} {d : Nat} {M : Mem} {lv : List (Nat × Value)} {pc : Nat} (h : Ok X cc own nL n ad g cI cZ cB d) {q : Mem → Prop} (hr : Ret X none cI cZ cB (PV q)) (hd : decode cc pc = .ok (.return_, 1)) (hp : q M) : V X M lv [] pc := by
  obtain ⟨p, l, e, R, s, m, args, below, meth, c, Q, A, D, n', ad', g', nL'⟩ := X
  obtain ⟨hx, hb, hml, hown, hts, hK, hD, rfl, rfl, rfl, rfl, hroom, hA, hlk⟩ := h
  intro H locs ls hP hS hl
  obtain ⟨hr1, rfl⟩ := hr
  exact W.vret hx hb hr1 (fun t ht hW => ⟨⟨_, M, rfl, ⟨rfl, hp⟩, by rw [ht]; exact hP, va_K.moved hW.alike hK⟩, hS.F ht⟩) hS.2.2 hd hlk

set_option maxHeartbeats 1000000 in
theorem s_topi {X : CT} {M : Mem} {lv : List (Nat × Value)} {st : List Value} {pc : Nat} {x : Int32} (k : ∀ y : Int32, y = x → V X M lv (.int y :: st) pc) : V X M lv (.int x :: st) pc := k x rfl
set_option maxHeartbeats 1000000 in
theorem s_mem {X : CT} {M : Mem} {lv : List (Nat × Value)} {st : List Value} {pc : Nat} (k : ∀ M' : Mem, M' = M → V X M' lv st pc) : V X M lv st pc := k M rfl
set_option maxHeartbeats 1000000 in
theorem s_top {X : CT} {M : Mem} {lv : List (Nat × Value)} {st : List Value} {pc : Nat} {x y : Int32} (e : x = y) (k : V X M lv (.int y :: st) pc) : V X M lv (.int x :: st) pc := e ▸ k
set_option maxHeartbeats 1000000 in
theorem s_if_eq {X : CT} {cc : ByteArray} {own : String} {nL n : Nat} {ad : Nat → Nat} {g : Lay} {cI cZ cB : ClassId} {d : Nat} {M : Mem} {lv : List (Nat × Value)} {st : List Value} {pc : Nat} (h : Ok X cc own nL n ad g cI cZ cB d) {x : Int32} {off : Int} {tgt : Nat} (hd : decode cc pc = .ok (.ifCond .eq off, 3)) (ht : (pc : Int) + off = (tgt : Int)) (kt : x = 0 → V X M lv st tgt) (kf : ¬ x = 0 → V X M lv st (pc + 3)) : V X M lv (.int x :: st) pc := by
  obtain ⟨p, l, e, R, s, m, args, below, meth, c, Q, A, D, n', ad', g', nL'⟩ := X
  obtain ⟨hx, hb, hml, hown, hts, hK, hD, rfl, rfl, rfl, rfl, hroom, hA, hlk⟩ := h
  intro H locs ls hP hS hl
  exact lv_if_eq hx hb hd ht (fun c => kt c H locs ls hP hS hl) (fun c => kf c H locs ls hP hS hl)

set_option maxHeartbeats 1000000 in
theorem s_icmp_eq {X : CT} {cc : ByteArray} {own : String} {nL n : Nat} {ad : Nat → Nat} {g : Lay} {cI cZ cB : ClassId} {d : Nat} {M : Mem} {lv : List (Nat × Value)} {st : List Value} {pc : Nat} (h : Ok X cc own nL n ad g cI cZ cB d) {x y : Int32} {off : Int} {tgt : Nat} (hd : decode cc pc = .ok (.if_icmp .eq off, 3)) (ht : (pc : Int) + off = (tgt : Int)) (kt : x = y → V X M lv st tgt) (kf : ¬ x = y → V X M lv st (pc + 3)) : V X M lv (.int y :: .int x :: st) pc := by
  obtain ⟨p, l, e, R, s, m, args, below, meth, c, Q, A, D, n', ad', g', nL'⟩ := X
  obtain ⟨hx, hb, hml, hown, hts, hK, hD, rfl, rfl, rfl, rfl, hroom, hA, hlk⟩ := h
  intro H locs ls hP hS hl
  exact lv_icmp_eq hx hb hd ht (fun c => kt c H locs ls hP hS hl) (fun c => kf c H locs ls hP hS hl)

set_option maxHeartbeats 1000000 in
theorem s_if_ne {X : CT} {cc : ByteArray} {own : String} {nL n : Nat} {ad : Nat → Nat} {g : Lay} {cI cZ cB : ClassId} {d : Nat} {M : Mem} {lv : List (Nat × Value)} {st : List Value} {pc : Nat} (h : Ok X cc own nL n ad g cI cZ cB d) {x : Int32} {off : Int} {tgt : Nat} (hd : decode cc pc = .ok (.ifCond .ne off, 3)) (ht : (pc : Int) + off = (tgt : Int)) (kt : ¬ x = 0 → V X M lv st tgt) (kf : x = 0 → V X M lv st (pc + 3)) : V X M lv (.int x :: st) pc := by
  obtain ⟨p, l, e, R, s, m, args, below, meth, c, Q, A, D, n', ad', g', nL'⟩ := X
  obtain ⟨hx, hb, hml, hown, hts, hK, hD, rfl, rfl, rfl, rfl, hroom, hA, hlk⟩ := h
  intro H locs ls hP hS hl
  exact lv_if_ne hx hb hd ht (fun c => kt c H locs ls hP hS hl) (fun c => kf c H locs ls hP hS hl)

set_option maxHeartbeats 1000000 in
theorem s_icmp_ne {X : CT} {cc : ByteArray} {own : String} {nL n : Nat} {ad : Nat → Nat} {g : Lay} {cI cZ cB : ClassId} {d : Nat} {M : Mem} {lv : List (Nat × Value)} {st : List Value} {pc : Nat} (h : Ok X cc own nL n ad g cI cZ cB d) {x y : Int32} {off : Int} {tgt : Nat} (hd : decode cc pc = .ok (.if_icmp .ne off, 3)) (ht : (pc : Int) + off = (tgt : Int)) (kt : ¬ x = y → V X M lv st tgt) (kf : x = y → V X M lv st (pc + 3)) : V X M lv (.int y :: .int x :: st) pc := by
  obtain ⟨p, l, e, R, s, m, args, below, meth, c, Q, A, D, n', ad', g', nL'⟩ := X
  obtain ⟨hx, hb, hml, hown, hts, hK, hD, rfl, rfl, rfl, rfl, hroom, hA, hlk⟩ := h
  intro H locs ls hP hS hl
  exact lv_icmp_ne hx hb hd ht (fun c => kt c H locs ls hP hS hl) (fun c => kf c H locs ls hP hS hl)

set_option maxHeartbeats 1000000 in
theorem s_if_lt {X : CT} {cc : ByteArray} {own : String} {nL n : Nat} {ad : Nat → Nat} {g : Lay} {cI cZ cB : ClassId} {d : Nat} {M : Mem} {lv : List (Nat × Value)} {st : List Value} {pc : Nat} (h : Ok X cc own nL n ad g cI cZ cB d) {x : Int32} {off : Int} {tgt : Nat} (hd : decode cc pc = .ok (.ifCond .lt off, 3)) (ht : (pc : Int) + off = (tgt : Int)) (kt : x < 0 → V X M lv st tgt) (kf : ¬ x < 0 → V X M lv st (pc + 3)) : V X M lv (.int x :: st) pc := by
  obtain ⟨p, l, e, R, s, m, args, below, meth, c, Q, A, D, n', ad', g', nL'⟩ := X
  obtain ⟨hx, hb, hml, hown, hts, hK, hD, rfl, rfl, rfl, rfl, hroom, hA, hlk⟩ := h
  intro H locs ls hP hS hl
  exact lv_if_lt hx hb hd ht (fun c => kt c H locs ls hP hS hl) (fun c => kf c H locs ls hP hS hl)

set_option maxHeartbeats 1000000 in
theorem s_icmp_lt {X : CT} {cc : ByteArray} {own : String} {nL n : Nat} {ad : Nat → Nat} {g : Lay} {cI cZ cB : ClassId} {d : Nat} {M : Mem} {lv : List (Nat × Value)} {st : List Value} {pc : Nat} (h : Ok X cc own nL n ad g cI cZ cB d) {x y : Int32} {off : Int} {tgt : Nat} (hd : decode cc pc = .ok (.if_icmp .lt off, 3)) (ht : (pc : Int) + off = (tgt : Int)) (kt : x < y → V X M lv st tgt) (kf : ¬ x < y → V X M lv st (pc + 3)) : V X M lv (.int y :: .int x :: st) pc := by
  obtain ⟨p, l, e, R, s, m, args, below, meth, c, Q, A, D, n', ad', g', nL'⟩ := X
  obtain ⟨hx, hb, hml, hown, hts, hK, hD, rfl, rfl, rfl, rfl, hroom, hA, hlk⟩ := h
  intro H locs ls hP hS hl
  exact lv_icmp_lt hx hb hd ht (fun c => kt c H locs ls hP hS hl) (fun c => kf c H locs ls hP hS hl)

set_option maxHeartbeats 1000000 in
theorem s_if_ge {X : CT} {cc : ByteArray} {own : String} {nL n : Nat} {ad : Nat → Nat} {g : Lay} {cI cZ cB : ClassId} {d : Nat} {M : Mem} {lv : List (Nat × Value)} {st : List Value} {pc : Nat} (h : Ok X cc own nL n ad g cI cZ cB d) {x : Int32} {off : Int} {tgt : Nat} (hd : decode cc pc = .ok (.ifCond .ge off, 3)) (ht : (pc : Int) + off = (tgt : Int)) (kt : 0 ≤ x → V X M lv st tgt) (kf : ¬ 0 ≤ x → V X M lv st (pc + 3)) : V X M lv (.int x :: st) pc := by
  obtain ⟨p, l, e, R, s, m, args, below, meth, c, Q, A, D, n', ad', g', nL'⟩ := X
  obtain ⟨hx, hb, hml, hown, hts, hK, hD, rfl, rfl, rfl, rfl, hroom, hA, hlk⟩ := h
  intro H locs ls hP hS hl
  exact lv_if_ge hx hb hd ht (fun c => kt c H locs ls hP hS hl) (fun c => kf c H locs ls hP hS hl)

set_option maxHeartbeats 1000000 in
theorem s_icmp_ge {X : CT} {cc : ByteArray} {own : String} {nL n : Nat} {ad : Nat → Nat} {g : Lay} {cI cZ cB : ClassId} {d : Nat} {M : Mem} {lv : List (Nat × Value)} {st : List Value} {pc : Nat} (h : Ok X cc own nL n ad g cI cZ cB d) {x y : Int32} {off : Int} {tgt : Nat} (hd : decode cc pc = .ok (.if_icmp .ge off, 3)) (ht : (pc : Int) + off = (tgt : Int)) (kt : y ≤ x → V X M lv st tgt) (kf : ¬ y ≤ x → V X M lv st (pc + 3)) : V X M lv (.int y :: .int x :: st) pc := by
  obtain ⟨p, l, e, R, s, m, args, below, meth, c, Q, A, D, n', ad', g', nL'⟩ := X
  obtain ⟨hx, hb, hml, hown, hts, hK, hD, rfl, rfl, rfl, rfl, hroom, hA, hlk⟩ := h
  intro H locs ls hP hS hl
  exact lv_icmp_ge hx hb hd ht (fun c => kt c H locs ls hP hS hl) (fun c => kf c H locs ls hP hS hl)

set_option maxHeartbeats 1000000 in
theorem s_if_gt {X : CT} {cc : ByteArray} {own : String} {nL n : Nat} {ad : Nat → Nat} {g : Lay} {cI cZ cB : ClassId} {d : Nat} {M : Mem} {lv : List (Nat × Value)} {st : List Value} {pc : Nat} (h : Ok X cc own nL n ad g cI cZ cB d) {x : Int32} {off : Int} {tgt : Nat} (hd : decode cc pc = .ok (.ifCond .gt off, 3)) (ht : (pc : Int) + off = (tgt : Int)) (kt : 0 < x → V X M lv st tgt) (kf : ¬ 0 < x → V X M lv st (pc + 3)) : V X M lv (.int x :: st) pc := by
  obtain ⟨p, l, e, R, s, m, args, below, meth, c, Q, A, D, n', ad', g', nL'⟩ := X
  obtain ⟨hx, hb, hml, hown, hts, hK, hD, rfl, rfl, rfl, rfl, hroom, hA, hlk⟩ := h
  intro H locs ls hP hS hl
  exact lv_if_gt hx hb hd ht (fun c => kt c H locs ls hP hS hl) (fun c => kf c H locs ls hP hS hl)

set_option maxHeartbeats 1000000 in
theorem s_icmp_gt {X : CT} {cc : ByteArray} {own : String} {nL n : Nat} {ad : Nat → Nat} {g : Lay} {cI cZ cB : ClassId} {d : Nat} {M : Mem} {lv : List (Nat × Value)} {st : List Value} {pc : Nat} (h : Ok X cc own nL n ad g cI cZ cB d) {x y : Int32} {off : Int} {tgt : Nat} (hd : decode cc pc = .ok (.if_icmp .gt off, 3)) (ht : (pc : Int) + off = (tgt : Int)) (kt : y < x → V X M lv st tgt) (kf : ¬ y < x → V X M lv st (pc + 3)) : V X M lv (.int y :: .int x :: st) pc := by
  obtain ⟨p, l, e, R, s, m, args, below, meth, c, Q, A, D, n', ad', g', nL'⟩ := X
  obtain ⟨hx, hb, hml, hown, hts, hK, hD, rfl, rfl, rfl, rfl, hroom, hA, hlk⟩ := h
  intro H locs ls hP hS hl
  exact lv_icmp_gt hx hb hd ht (fun c => kt c H locs ls hP hS hl) (fun c => kf c H locs ls hP hS hl)

set_option maxHeartbeats 1000000 in
theorem s_if_le {X : CT} {cc : ByteArray} {own : String} {nL n : Nat} {ad : Nat → Nat} {g : Lay} {cI cZ cB : ClassId} {d : Nat} {M : Mem} {lv : List (Nat × Value)} {st : List Value} {pc : Nat} (h : Ok X cc own nL n ad g cI cZ cB d) {x : Int32} {off : Int} {tgt : Nat} (hd : decode cc pc = .ok (.ifCond .le off, 3)) (ht : (pc : Int) + off = (tgt : Int)) (kt : x ≤ 0 → V X M lv st tgt) (kf : ¬ x ≤ 0 → V X M lv st (pc + 3)) : V X M lv (.int x :: st) pc := by
  obtain ⟨p, l, e, R, s, m, args, below, meth, c, Q, A, D, n', ad', g', nL'⟩ := X
  obtain ⟨hx, hb, hml, hown, hts, hK, hD, rfl, rfl, rfl, rfl, hroom, hA, hlk⟩ := h
  intro H locs ls hP hS hl
  exact lv_if_le hx hb hd ht (fun c => kt c H locs ls hP hS hl) (fun c => kf c H locs ls hP hS hl)

set_option maxHeartbeats 1000000 in
theorem s_icmp_le {X : CT} {cc : ByteArray} {own : String} {nL n : Nat} {ad : Nat → Nat} {g : Lay} {cI cZ cB : ClassId} {d : Nat} {M : Mem} {lv : List (Nat × Value)} {st : List Value} {pc : Nat} (h : Ok X cc own nL n ad g cI cZ cB d) {x y : Int32} {off : Int} {tgt : Nat} (hd : decode cc pc = .ok (.if_icmp .le off, 3)) (ht : (pc : Int) + off = (tgt : Int)) (kt : x ≤ y → V X M lv st tgt) (kf : ¬ x ≤ y → V X M lv st (pc + 3)) : V X M lv (.int y :: .int x :: st) pc := by
  obtain ⟨p, l, e, R, s, m, args, below, meth, c, Q, A, D, n', ad', g', nL'⟩ := X
  obtain ⟨hx, hb, hml, hown, hts, hK, hD, rfl, rfl, rfl, rfl, hroom, hA, hlk⟩ := h
  intro H locs ls hP hS hl
  exact lv_icmp_le hx hb hd ht (fun c => kt c H locs ls hP hS hl) (fun c => kf c H locs ls hP hS hl)

set_option maxHeartbeats 1000000 in
theorem s_callVi {X : CT} {cc : ByteArray} {own : String} {nL n : Nat} {ad : Nat → Nat} {cI cZ cB : ClassId} {d : Nat} {M : Mem} {lv : List (Nat × Value)} {st : List Value} {pc : Nat} {gl : (Nat → Nat) → ClassId → ClassId → ClassId → Lay}  {y : MethodName} {ccy : ByteArray} {maxL : Nat} {ret : Option FieldType} {dy idx nA : Nat} {av : (Nat → Nat) → List Value} {q : Int32 → Mem → Prop} {stk : List Value} (h : Ok X cc own nL n ad (gl ad cI cZ cB) cI cZ cB d) (hM : AM y ccy maxL ret dy n gl av M (PI q)) (hmw : MV y ccy maxL ret nA) (hml0 : Cond.methodLink own idx y ∈ UL) (hdy : dy < d) (hmx : maxL ≤ 40) {k ci : Nat} {qc : vw_C} {fs : (Nat → Int32) → List Value} {As : List Value} (ho : OB (gl ad cI cZ cB) n k ci fs) (hc : cls11[ci]? = some qc) (hq : qc.1 = y.cls) (hav : av ad = .ref (ad k) :: As) (hn : As.length = nA) (hs : stk = (av ad).reverse ++ st) (hst : (st.map fun v => v.category).sum ≤ 8) (hd : decode cc pc = .ok (.invokevirtual idx, 3)) (kk : ∀ (r : Int32) (M' : Mem), q r M' → V X M' lv (.int r :: st) (pc + 3)) : V X M lv stk pc := by
  subst hs
  obtain ⟨p, l, e, R, s, m, args, below, meth, c, Q, A, D, n', ad', g', nL'⟩ := X
  obtain ⟨hx, hb, hml, hown, hts, hK, hD, rfl, rfl, rfl, rfl, hroom, hA, hlk⟩ := h
  intro H locs ls hP hS hlv
  have hF : ∀ q, va_A (wl n' ad' (gl ad' cI cZ cB) M) H.size q → A q := by
    intro q h
    rcases h with ⟨k2, e2, h⟩ | h
    · exact (hD M).2 k2 (q, e2) h
    · exact hA q (Nat.le_trans hS.1 h)
  have hrun := va_runV (As := As) (b := ad' k) (rest := st) (C := y.cls) (g := F0 m pc ls ((av ad').reverse ++ st)) (H := H) (locs := locs) (cells := 0) (slots := 0) (e := e) (below := below) (meth := meth) ⟨hx, hb, hml, hown, hts⟩ (hM l D cI cZ cB ad' H.size) (cwV nA hts (wl_gi (mlv_gi hmw hml0)) rfl rfl rfl ⟨rfl, hmw.2⟩ ⟨by show dy + 1 ≤ R.frames; omega, by show 8 + (maxL + 11) + 64 * dy ≤ R.locals; omega⟩) ⟨fun a U g mk q => by obtain ⟨q0, q1, qP, qK, qD⟩ := q; exact ⟨q0, q1, qP, va_K.moved (u := U) (U := U.calling g mk a) (Vm.Alike.refl U.vm) qK, qD⟩, by have hr9 := va_recv hK hP hc ho.at; rw [hq] at hr9; exact hr9, fun U hU hW => ⟨by rw [hav], by rw [hU], by rw [hU]; exact hP, va_K.moved hW.alike hK, (hD M).weaken (fun _ _ _ _ => trivial)⟩⟩ rfl hn hlv.1 (by rw [hav]; simp) (lv_room hst) hd ⟨Nat.zero_le _, Nat.zero_le _⟩
  intro T hT X0
  obtain ⟨v, st₀, t, T', L, h0, X', hL, e1, e2, ⟨⟨v1, M1, hv, hp, hP1, hK1⟩, hz, hk9⟩, stp⟩ := hrun T hT X0
  cases hv
  obtain ⟨r, rfl, hq9⟩ := hp
  rw [h0] at hz hk9
  obtain ⟨t2, a1, b1⟩ := kk r M1 hq9 T'.heap (locs ++ L) ls (by rw [e1]; exact hP1)
    ⟨Nat.le_trans hS.1 (by rw [e1]; exact hz), fun q h1 h2 => by rw [e1, hk9 q (Nat.lt_of_lt_of_le h1 hS.1) (fun z => h2 (hF q z))]; exact hS.2.1 q h1 h2, fun q hq => by
      rcases List.mem_append.mp hq with h | h
      · exact hS.2.2 q h
      · exact hF _ (hL q h)⟩ hlv T' rfl X'
  exact ⟨t2, stp t2 a1, b1⟩

set_option maxHeartbeats 1000000 in
theorem s_callVv {X : CT} {cc : ByteArray} {own : String} {nL n : Nat} {ad : Nat → Nat} {cI cZ cB : ClassId} {d : Nat} {M : Mem} {lv : List (Nat × Value)} {st : List Value} {pc : Nat} {gl : (Nat → Nat) → ClassId → ClassId → ClassId → Lay}  {y : MethodName} {ccy : ByteArray} {maxL : Nat} {ret : Option FieldType} {dy idx nA : Nat} {av : (Nat → Nat) → List Value} {q : Mem → Prop} {stk : List Value} (h : Ok X cc own nL n ad (gl ad cI cZ cB) cI cZ cB d) (hM : AM y ccy maxL ret dy n gl av M (PV q)) (hmw : MV y ccy maxL ret nA) (hml0 : Cond.methodLink own idx y ∈ UL) (hdy : dy < d) (hmx : maxL ≤ 40) {k ci : Nat} {qc : vw_C} {fs : (Nat → Int32) → List Value} {As : List Value} (ho : OB (gl ad cI cZ cB) n k ci fs) (hc : cls11[ci]? = some qc) (hq : qc.1 = y.cls) (hav : av ad = .ref (ad k) :: As) (hn : As.length = nA) (hs : stk = (av ad).reverse ++ st) (hst : (st.map fun v => v.category).sum ≤ 8) (hd : decode cc pc = .ok (.invokevirtual idx, 3)) (kk : ∀ (M' : Mem), q M' → V X M' lv st (pc + 3)) : V X M lv stk pc := by
  subst hs
  obtain ⟨p, l, e, R, s, m, args, below, meth, c, Q, A, D, n', ad', g', nL'⟩ := X
  obtain ⟨hx, hb, hml, hown, hts, hK, hD, rfl, rfl, rfl, rfl, hroom, hA, hlk⟩ := h
  intro H locs ls hP hS hlv
  have hF : ∀ q, va_A (wl n' ad' (gl ad' cI cZ cB) M) H.size q → A q := by
    intro q h
    rcases h with ⟨k2, e2, h⟩ | h
    · exact (hD M).2 k2 (q, e2) h
    · exact hA q (Nat.le_trans hS.1 h)
  have hrun := va_runV (As := As) (b := ad' k) (rest := st) (C := y.cls) (g := F0 m pc ls ((av ad').reverse ++ st)) (H := H) (locs := locs) (cells := 0) (slots := 0) (e := e) (below := below) (meth := meth) ⟨hx, hb, hml, hown, hts⟩ (hM l D cI cZ cB ad' H.size) (cwV nA hts (wl_gi (mlv_gi hmw hml0)) rfl rfl rfl ⟨rfl, hmw.2⟩ ⟨by show dy + 1 ≤ R.frames; omega, by show 8 + (maxL + 11) + 64 * dy ≤ R.locals; omega⟩) ⟨fun a U g mk q => by obtain ⟨q0, q1, qP, qK, qD⟩ := q; exact ⟨q0, q1, qP, va_K.moved (u := U) (U := U.calling g mk a) (Vm.Alike.refl U.vm) qK, qD⟩, by have hr9 := va_recv hK hP hc ho.at; rw [hq] at hr9; exact hr9, fun U hU hW => ⟨by rw [hav], by rw [hU], by rw [hU]; exact hP, va_K.moved hW.alike hK, (hD M).weaken (fun _ _ _ _ => trivial)⟩⟩ rfl hn hlv.1 (by rw [hav]; simp) (lv_room hst) hd ⟨Nat.zero_le _, Nat.zero_le _⟩
  intro T hT X0
  obtain ⟨v, st₀, t, T', L, h0, X', hL, e1, e2, ⟨⟨v1, M1, hv, hp, hP1, hK1⟩, hz, hk9⟩, stp⟩ := hrun T hT X0
  cases hv
  obtain ⟨rfl, hq9⟩ := hp
  rw [h0] at hz hk9
  obtain ⟨t2, a1, b1⟩ := kk M1 hq9 T'.heap (locs ++ L) ls (by rw [e1]; exact hP1)
    ⟨Nat.le_trans hS.1 (by rw [e1]; exact hz), fun q h1 h2 => by rw [e1, hk9 q (Nat.lt_of_lt_of_le h1 hS.1) (fun z => h2 (hF q z))]; exact hS.2.1 q h1 h2, fun q hq => by
      rcases List.mem_append.mp hq with h | h
      · exact hS.2.2 q h
      · exact hF _ (hL q h)⟩ hlv T' rfl X'
  exact ⟨t2, stp t2 a1, b1⟩

set_option maxHeartbeats 1000000 in
theorem s_callSi {X : CT} {cc : ByteArray} {own : String} {nL n : Nat} {ad : Nat → Nat} {cI cZ cB : ClassId} {d : Nat} {M : Mem} {lv : List (Nat × Value)} {st : List Value} {pc : Nat} {gl : (Nat → Nat) → ClassId → ClassId → ClassId → Lay}  {y : MethodName} {ccy : ByteArray} {maxL : Nat} {ret : Option FieldType} {dy idx nA : Nat} {av : (Nat → Nat) → List Value} {q : Int32 → Mem → Prop} {stk : List Value} (h : Ok X cc own nL n ad (gl ad cI cZ cB) cI cZ cB d) (hM : AM y ccy maxL ret dy n gl av M (PI q)) (hmw : MS y ccy maxL ret nA) (hml0 : Cond.methodLink own idx y ∈ UL) (hdy : dy < d) (hmx : maxL ≤ 40) (hn : (av ad).length = nA) (hs : stk = (av ad).reverse ++ st) (hst : (st.map fun v => v.category).sum ≤ 8) (hd : decode cc pc = .ok (.invokestatic idx, 3)) (kk : ∀ (r : Int32) (M' : Mem), q r M' → V X M' lv (.int r :: st) (pc + 3)) : V X M lv stk pc := by
  subst hs
  obtain ⟨p, l, e, R, s, m, args, below, meth, c, Q, A, D, n', ad', g', nL'⟩ := X
  obtain ⟨hx, hb, hml, hown, hts, hK, hD, rfl, rfl, rfl, rfl, hroom, hA, hlk⟩ := h
  intro H locs ls hP hS hlv
  have hF : ∀ q, va_A (wl n' ad' (gl ad' cI cZ cB) M) H.size q → A q := by
    intro q h
    rcases h with ⟨k2, e2, h⟩ | h
    · exact (hD M).2 k2 (q, e2) h
    · exact hA q (Nat.le_trans hS.1 h)
  have hrun := va_runS (As := av ad') (rest := st) (g := F0 m pc ls ((av ad').reverse ++ st)) (H := H) (locs := locs) (cells := 0) (slots := 0) (e := e) (below := below) (meth := meth) ⟨hx, hb, hml, hown, hts⟩ (hM l D cI cZ cB ad' H.size) (va_cwS nA hts (wl_gi (mls_gi hmw hml0)) rfl rfl rfl hmw.2 ⟨by show dy + 1 ≤ R.frames; omega, by show 8 + (maxL + 11) + 64 * dy ≤ R.locals; omega⟩) ⟨fun a U g mk q => by obtain ⟨q0, q1, qP, qK, qD⟩ := q; exact ⟨q0, q1, qP, va_K.moved (u := U) (U := U.calling g mk a) (Vm.Alike.refl U.vm) qK, qD⟩, fun U hU hW => ⟨rfl, by rw [hU], by rw [hU]; exact hP, va_K.moved hW.alike hK, (hD M).weaken (fun _ _ _ _ => trivial)⟩⟩ rfl hn hlv.1 rfl (lv_room hst) hd ⟨Nat.zero_le _, Nat.zero_le _⟩
  intro T hT X0
  obtain ⟨v, st₀, t, T', L, h0, X', hL, e1, e2, ⟨⟨v1, M1, hv, hp, hP1, hK1⟩, hz, hk9⟩, stp⟩ := hrun T hT X0
  cases hv
  obtain ⟨r, rfl, hq9⟩ := hp
  rw [h0] at hz hk9
  obtain ⟨t2, a1, b1⟩ := kk r M1 hq9 T'.heap (locs ++ L) ls (by rw [e1]; exact hP1)
    ⟨Nat.le_trans hS.1 (by rw [e1]; exact hz), fun q h1 h2 => by rw [e1, hk9 q (Nat.lt_of_lt_of_le h1 hS.1) (fun z => h2 (hF q z))]; exact hS.2.1 q h1 h2, fun q hq => by
      rcases List.mem_append.mp hq with h | h
      · exact hS.2.2 q h
      · exact hF _ (hL q h)⟩ hlv T' rfl X'
  exact ⟨t2, stp t2 a1, b1⟩

set_option maxHeartbeats 1000000 in
theorem s_callSv {X : CT} {cc : ByteArray} {own : String} {nL n : Nat} {ad : Nat → Nat} {cI cZ cB : ClassId} {d : Nat} {M : Mem} {lv : List (Nat × Value)} {st : List Value} {pc : Nat} {gl : (Nat → Nat) → ClassId → ClassId → ClassId → Lay}  {y : MethodName} {ccy : ByteArray} {maxL : Nat} {ret : Option FieldType} {dy idx nA : Nat} {av : (Nat → Nat) → List Value} {q : Mem → Prop} {stk : List Value} (h : Ok X cc own nL n ad (gl ad cI cZ cB) cI cZ cB d) (hM : AM y ccy maxL ret dy n gl av M (PV q)) (hmw : MS y ccy maxL ret nA) (hml0 : Cond.methodLink own idx y ∈ UL) (hdy : dy < d) (hmx : maxL ≤ 40) (hn : (av ad).length = nA) (hs : stk = (av ad).reverse ++ st) (hst : (st.map fun v => v.category).sum ≤ 8) (hd : decode cc pc = .ok (.invokestatic idx, 3)) (kk : ∀ (M' : Mem), q M' → V X M' lv st (pc + 3)) : V X M lv stk pc := by
  subst hs
  obtain ⟨p, l, e, R, s, m, args, below, meth, c, Q, A, D, n', ad', g', nL'⟩ := X
  obtain ⟨hx, hb, hml, hown, hts, hK, hD, rfl, rfl, rfl, rfl, hroom, hA, hlk⟩ := h
  intro H locs ls hP hS hlv
  have hF : ∀ q, va_A (wl n' ad' (gl ad' cI cZ cB) M) H.size q → A q := by
    intro q h
    rcases h with ⟨k2, e2, h⟩ | h
    · exact (hD M).2 k2 (q, e2) h
    · exact hA q (Nat.le_trans hS.1 h)
  have hrun := va_runS (As := av ad') (rest := st) (g := F0 m pc ls ((av ad').reverse ++ st)) (H := H) (locs := locs) (cells := 0) (slots := 0) (e := e) (below := below) (meth := meth) ⟨hx, hb, hml, hown, hts⟩ (hM l D cI cZ cB ad' H.size) (va_cwS nA hts (wl_gi (mls_gi hmw hml0)) rfl rfl rfl hmw.2 ⟨by show dy + 1 ≤ R.frames; omega, by show 8 + (maxL + 11) + 64 * dy ≤ R.locals; omega⟩) ⟨fun a U g mk q => by obtain ⟨q0, q1, qP, qK, qD⟩ := q; exact ⟨q0, q1, qP, va_K.moved (u := U) (U := U.calling g mk a) (Vm.Alike.refl U.vm) qK, qD⟩, fun U hU hW => ⟨rfl, by rw [hU], by rw [hU]; exact hP, va_K.moved hW.alike hK, (hD M).weaken (fun _ _ _ _ => trivial)⟩⟩ rfl hn hlv.1 rfl (lv_room hst) hd ⟨Nat.zero_le _, Nat.zero_le _⟩
  intro T hT X0
  obtain ⟨v, st₀, t, T', L, h0, X', hL, e1, e2, ⟨⟨v1, M1, hv, hp, hP1, hK1⟩, hz, hk9⟩, stp⟩ := hrun T hT X0
  cases hv
  obtain ⟨rfl, hq9⟩ := hp
  rw [h0] at hz hk9
  obtain ⟨t2, a1, b1⟩ := kk M1 hq9 T'.heap (locs ++ L) ls (by rw [e1]; exact hP1)
    ⟨Nat.le_trans hS.1 (by rw [e1]; exact hz), fun q h1 h2 => by rw [e1, hk9 q (Nat.lt_of_lt_of_le h1 hS.1) (fun z => h2 (hF q z))]; exact hS.2.1 q h1 h2, fun q hq => by
      rcases List.mem_append.mp hq with h | h
      · exact hS.2.2 q h
      · exact hF _ (hL q h)⟩ hlv T' rfl X'
  exact ⟨t2, stp t2 a1, b1⟩

set_option maxHeartbeats 1000000 in
theorem s_mmax {X : CT} {cc : ByteArray} {own : String} {nL n : Nat} {ad : Nat → Nat} {g : Lay} {cI cZ cB : ClassId} {d : Nat} {M : Mem} {lv : List (Nat × Value)} {st : List Value} {pc : Nat} (h : Ok X cc own nL n ad g cI cZ cB d) {idx : Nat} {x y : Int32} (hw : Cond.methodLink own idx Lib.Math.max.name ∈ UL) (hw2 : Cond.static Lib.Math.max.name ∈ UL ∧ Cond.initialized "java/lang/Math" ∈ UL ∧ Cond.code Lib.Math.max.name Lib.Math.max.code 2 (some .int) ∈ UL) (hd1 : 1 ≤ d) (hst : (st.map fun v => v.category).sum ≤ 8) (hd : decode cc pc = .ok (.invokestatic idx, 3)) (kk : V X M lv (.int (if x < y then y else x) :: st) (pc + 3)) : V X M lv (.int y :: .int x :: st) pc := by
  obtain ⟨p, l, e, R, s, m, args, below, meth, c, Q, A, D, n', ad', g', nL'⟩ := X
  obtain ⟨hx, hb, hml, hown, hts, hK, hD, rfl, rfl, rfl, rfl, hroom, hA, hlk⟩ := h
  intro H locs ls hP hS hl
  exact va_mmax hx hb (hml.trans hl.1.symm) hown (hts _ hw) (hts _ hw2.1) (hts _ hw2.2.1) (hts _ hw2.2.2) (by omega) (by omega) (Nat.zero_le _) (Nat.zero_le _) hd (kk H locs ls hP hS hl)

set_option maxHeartbeats 1000000 in
theorem s_mmin {X : CT} {cc : ByteArray} {own : String} {nL n : Nat} {ad : Nat → Nat} {g : Lay} {cI cZ cB : ClassId} {d : Nat} {M : Mem} {lv : List (Nat × Value)} {st : List Value} {pc : Nat} (h : Ok X cc own nL n ad g cI cZ cB d) {idx : Nat} {x y : Int32} (hw : Cond.methodLink own idx Lib.Math.min.name ∈ UL) (hw2 : Cond.static Lib.Math.min.name ∈ UL ∧ Cond.initialized "java/lang/Math" ∈ UL ∧ Cond.code Lib.Math.min.name Lib.Math.min.code 2 (some .int) ∈ UL) (hd1 : 1 ≤ d) (hst : (st.map fun v => v.category).sum ≤ 8) (hd : decode cc pc = .ok (.invokestatic idx, 3)) (kk : V X M lv (.int (if y < x then y else x) :: st) (pc + 3)) : V X M lv (.int y :: .int x :: st) pc := by
  obtain ⟨p, l, e, R, s, m, args, below, meth, c, Q, A, D, n', ad', g', nL'⟩ := X
  obtain ⟨hx, hb, hml, hown, hts, hK, hD, rfl, rfl, rfl, rfl, hroom, hA, hlk⟩ := h
  intro H locs ls hP hS hl
  exact va_mmin hx hb (hml.trans hl.1.symm) hown (hts _ hw) (hts _ hw2.1) (hts _ hw2.2.1) (hts _ hw2.2.2) (by omega) (by omega) (Nat.zero_le _) (Nat.zero_le _) hd (kk H locs ls hP hS hl)

set_option maxHeartbeats 1000000 in
theorem s_mabs {X : CT} {cc : ByteArray} {own : String} {nL n : Nat} {ad : Nat → Nat} {g : Lay} {cI cZ cB : ClassId} {d : Nat} {M : Mem} {lv : List (Nat × Value)} {st : List Value} {pc : Nat} (h : Ok X cc own nL n ad g cI cZ cB d) {idx : Nat} {x : Int32} (hw : Cond.methodLink own idx Lib.Math.abs.name ∈ UL) (hw2 : Cond.static Lib.Math.abs.name ∈ UL ∧ Cond.initialized "java/lang/Math" ∈ UL ∧ Cond.code Lib.Math.abs.name Lib.Math.abs.code 1 (some .int) ∈ UL) (hd1 : 1 ≤ d) (hst : (st.map fun v => v.category).sum ≤ 8) (hd : decode cc pc = .ok (.invokestatic idx, 3)) (kk : V X M lv (.int (if 0 ≤ x then x else 0 - x) :: st) (pc + 3)) : V X M lv (.int x :: st) pc := by
  obtain ⟨p, l, e, R, s, m, args, below, meth, c, Q, A, D, n', ad', g', nL'⟩ := X
  obtain ⟨hx, hb, hml, hown, hts, hK, hD, rfl, rfl, rfl, rfl, hroom, hA, hlk⟩ := h
  intro H locs ls hP hS hl
  exact va_mabs hx hb (hml.trans hl.1.symm) hown (hts _ hw) (hts _ hw2.1) (hts _ hw2.2.1) (hts _ hw2.2.2) (by omega) (by omega) (Nat.zero_le _) (Nat.zero_le _) hd (kk H locs ls hP hS hl)
