/-! constructors: worlds as lists of cells -/
def zA (c : ClassId) (n : Nat) : va_E := .inl (c, n, .inl (fun _ => (0 : Int32)))
abbrev CU : Type := Program × Launch × Env × Room × State × MethodId × Array Value × List Frame × Method × Code × (State → Prop) × (Nat → Prop) × va_G × Nat
def VU : CU → va_W → List (Nat × Value) → List Value → Nat → Nat → Nat → Prop
  | (p, l, e, R, s, m, args, below, meth, c, Q, A, D, nL), ws, lv, st, pc, cells, slots => ∀ (H : Heap) (locs : List Loc) (ls : Array Slot), va_P D cls11 ws H → va_D A ws → va_S A s.heap H locs → lv_has ls nL lv → W p l e R s m args below meth c H locs cells slots Q (F0 m pc ls st)
def OkU (X : CU) (cc : ByteArray) (own : String) (nL : Nat) (cI cZ cB : ClassId) (d mc ms : Nat) : Prop := match X with
  | (p, l, e, R, s, m, args, below, meth, c, Q, A, D, nL') => p.tables.exec = Jvm.exec ∧ c.code = cc ∧ c.maxLocals = nL ∧ s.vm.findClass own = some m.cls ∧ (∀ w ∈ UL, w.before args s = true) ∧ va_K D cls11 (tyl cI cZ cB) s ∧ nL' = nL ∧ (d ≤ R.frames ∧ 64 * d ≤ R.locals) ∧ (mc ≤ R.cells ∧ ms ≤ R.slots) ∧ (∀ q, s.heap.size ≤ q → A q) ∧ meth.locks = false
def InU (X : CU) : Prop := match X with
  | (p, l, e, R, s, m, args, below, meth, c, Q, A, D, nL') => meth.name = "<init>"
def NeU (X : CU) (idx : Nat) (y : MethodName) : Prop := match X with
  | (p, l, e, R, s, m, args, below, meth, c, Q, A, D, nL') => va_Nw (.methodLinkNest RX9 idx y "SteppingStones") s
def QI (D : va_G) (tys : List (ClassId × FieldType)) (wi : (Nat → Nat) → va_W) (h0 : Nat) (A : Nat → Prop) : Array Value → State → Outcome → State → Prop := fun _ st oc t =>
  (∃ a : Nat → Nat, oc = .returned none ∧ a 0 = h0 ∧ va_P D cls11 (wi a) t.heap ∧ va_K D cls11 tys t ∧ va_D A (wi a)) ∧ va_F A st t
def ReU (X : CU) (cI cZ cB : ClassId) (wi : (Nat → Nat) → va_W) (h0 mc ms : Nat) : Prop := match X with
  | (p, l, e, R, s, m, args, below, meth, c, Q, A, D, nL) => meth.sig.returnType = none ∧ Q = MQ below (QI D (tyl cI cZ cB) wi h0 A) args s mc ms A
def rmu (d mc ms : Nat) : Room := { frames := d, cells := mc, slots := ms, locals := 64 * d }
def Blind (ex : State → Prop) : Prop := ∀ (U U' : State), U.vm = U'.vm → ex U → ex U'
/-- a constructor's contract: from the blank object to its world -/
def AI (y : MethodName) (cc : ByteArray) (ci : Nat) (fs0 : List Value) (d mc ms : Nat) (ex : State → Prop) (wi : ClassId → ClassId → ClassId → (Nat → Nat) → va_W) : Prop :=
  ∀ (l : Launch) (D : va_G) (cI cZ cB : ClassId) (h0 sz : Nat), Met l y (UW y cc 1 none) (rmu d mc ms) (va_Pc [.ref h0] (fun U => U.heap.size = sz ∧ va_P D cls11 [(h0, .inr (ci, fs0))] U.heap ∧ va_K D cls11 (tyl cI cZ cB) U ∧ va_D (fun _ => True) [(h0, .inr (ci, fs0))] ∧ ex U))
    (QI D (tyl cI cZ cB) (wi cI cZ cB) h0 (va_A [(h0, .inr (ci, fs0))] sz)) mc ms (va_A [(h0, .inr (ci, fs0))] sz)
theorem AI.of {y : MethodName} {cc : ByteArray} {ci : Nat} {fs0 : List Value} {d mc ms : Nat} {ex : State → Prop} {wi : ClassId → ClassId → ClassId → (Nat → Nat) → va_W} (hy : plainName y.cls = true) (hy2 : y.name = "<init>")
    (body : ∀ (X : CU) (cI cZ cB : ClassId) (h0 : Nat), OkU X cc y.cls 1 cI cZ cB d mc ms → InU X → (∀ (P : State → Prop), (∀ s, ex s → P s) → (match X with | (_, _, _, _, s, _) => P s)) → ReU X cI cZ cB (wi cI cZ cB) h0 mc ms → VU X [(h0, .inr (ci, fs0))] [(0, .ref h0)] [] 0 0 0) : AI y cc ci fs0 d mc ms ex wi := by
  intro l D cI cZ cB h0 sz
  refine Met.ofW (cc := cc) (maxL := 1) (ret := none) hy rfl ?_
  intro p e s m args below meth c s₁ B hml hv
  obtain ⟨rfl, hsz, hP, hK, hD0, hex⟩ := hv
  have hts := atoms_spec (ws := UW y cc 1 none) B.pre
  have hown : s.vm.findClass y.cls = some m.cls := findClass_of_methodNamed B.named
  have hin : meth.name = "<init>" := (name_of_methodNamed B.named B.method).1.trans hy2
  subst hsz
  have hD := hD0.self (sz := s.heap.size)
  have hl := lv_entry ([.ref h0]) (n := 1) (Nat.le_of_ble_eq_true rfl)
  rw [lg_entry_eq]
  exact body (p, l, e, (headSpec (UW y cc 1 none) (rmu d mc ms)).room, s, m, ([Value.ref h0] : List Value).toArray, below, meth, c, MQ below (QI D (tyl cI cZ cB) (wi cI cZ cB) h0 (va_A [(h0, .inr (ci, fs0))] s.heap.size)) ([Value.ref h0] : List Value).toArray s mc ms (va_A [(h0, .inr (ci, fs0))] s.heap.size), va_A [(h0, .inr (ci, fs0))] s.heap.size, D, 1) cI cZ cB h0
    ⟨B.exec, B.bytes, hml, hown, fun w hw => hts w (List.mem_cons_of_mem _ hw), hK, rfl, ⟨Nat.le_refl _, Nat.le_refl _⟩, ⟨Nat.le_refl _, Nat.le_refl _⟩, fun q h => Or.inr h, B.notSynchronized⟩ hin (fun P hP => hP s hex) ⟨B.returns, rfl⟩ s.heap [] _ hP hD va_S.rf hl
theorem wj {A0 : Nat → Prop} {D : va_G} {cl : List vw_C} {pre w1 : va_W} {q : Nat} {e : va_E} {H H1 : Heap} (hP : va_P D cl (pre ++ [(q, e)]) H) (hD : va_D A0 (pre ++ [(q, e)])) (hk : ∀ x : Nat, x < H.size → ¬ va_A [(q, e)] H.size x → H1[x]? = H[x]?) (hF : ∀ x, va_A [(q, e)] H.size x → A0 x) (hP1 : va_P D cl w1 H1) (hD1 : va_D (va_A [(q, e)] H.size) w1) : va_P D cl (pre ++ w1) H1 ∧ va_D A0 (pre ++ w1) := by
  have hin : ∀ (k : Nat) (x : Nat × va_E), pre[k]? = some x → (pre ++ [(q, e)])[k]? = some x ∧ k < pre.length := by
    intro k x hx
    have hl := (List.getElem?_eq_some_iff.mp hx).1
    exact ⟨by rw [List.getElem?_append_left hl]; exact hx, hl⟩
  have hlast : (pre ++ [(q, e)])[pre.length]? = some (q, e) := by rw [List.getElem?_append_right (Nat.le_refl _), Nat.sub_self]; rfl
  have hout : ∀ (k : Nat) (x : Nat × va_E), pre[k]? = some x → x.1 < H.size ∧ ¬ va_A [(q, e)] H.size x.1 := by
    intro k x hx
    obtain ⟨h1, h2⟩ := hin k x hx
    have hl := (hP k x h1).lt
    refine ⟨hl, fun h => ?_⟩
    rcases h with ⟨k2, e2, h⟩ | h
    · have hz : k2 < 1 := (List.getElem?_eq_some_iff.mp h).1
      rw [show k2 = 0 by omega] at h
      have h9 : (q, e) = (x.1, e2) := Option.some.inj h
      have hq : q = x.1 := congrArg Prod.fst h9
      have := hD.1 k pre.length x (q, e) h1 hlast hq.symm
      omega
    · omega
  refine ⟨va_P.app (fun k x hx => ?_) hP1, va_D.app ⟨fun i j x y hi hj hxy => ?_, fun k x hx => hD.2 k x (hin k x hx).1⟩ (hD1.weaken (fun k x _ h => hF x.1 h)) (fun i j x y hx hy hxy => ?_)⟩
  · obtain ⟨g1, g2⟩ := hout k x hx
    exact (hP k x (hin k x hx).1).kept (hk x.1 g1 g2)
  · exact hD.1 i j x y (hin i x hi).1 (hin j y hj).1 hxy
  · exact (hout i x hx).2 (by rw [hxy]; exact hD1.2 j y hy)
theorem u_aload {X : CU} {cc : ByteArray} {own : String} {nL : Nat} {cI cZ cB : ClassId} {d mc ms : Nat} {ws : va_W} {lv : List (Nat × Value)} {st : List Value} {pc cells slots : Nat} (h : OkU X cc own nL cI cZ cB d mc ms) {q : Fin 4} {i kk x : Nat} (hd : decode cc pc = .ok (.aload_n q, 1)) (hi : (q : Nat) = i) (hk : lv[kk]? = some (i, .ref x)) (k : VU X ws lv (.ref x :: st) (pc + 1) cells slots) : VU X ws lv st pc cells slots := by
  obtain ⟨p, l, e, R, s, m, args, below, meth, c, Q, A, D, nL'⟩ := X
  obtain ⟨hx, hb, hml, hown, hts, hK, rfl, hroom, hcs, hA, hlk⟩ := h
  intro H locs ls hP hD hS hl
  exact lv_aload_n hx hb hd hi (lv_at hl kk hk) (k H locs ls hP hD hS hl)
theorem u_iconst {X : CU} {cc : ByteArray} {own : String} {nL : Nat} {cI cZ cB : ClassId} {d mc ms : Nat} {ws : va_W} {lv : List (Nat × Value)} {st : List Value} {pc cells slots : Nat} (h : OkU X cc own nL cI cZ cB d mc ms) {i : Int} {v : Int32} (hd : decode cc pc = .ok (.iconst i, 1)) (hv : Int32.ofInt i = v) (k : VU X ws lv (.int v :: st) (pc + 1) cells slots) : VU X ws lv st pc cells slots := by
  obtain ⟨p, l, e, R, s, m, args, below, meth, c, Q, A, D, nL'⟩ := X
  obtain ⟨hx, hb, hml, hown, hts, hK, rfl, hroom, hcs, hA, hlk⟩ := h
  intro H locs ls hP hD hS hl
  exact lv_iconst hx hb hd hv (k H locs ls hP hD hS hl)
theorem u_bipush {X : CU} {cc : ByteArray} {own : String} {nL : Nat} {cI cZ cB : ClassId} {d mc ms : Nat} {ws : va_W} {lv : List (Nat × Value)} {st : List Value} {pc cells slots : Nat} (h : OkU X cc own nL cI cZ cB d mc ms) {i : Int} {v : Int32} (hd : decode cc pc = .ok (.bipush i, 2)) (hv : (Int8.ofInt i).toInt32 = v) (k : VU X ws lv (.int v :: st) (pc + 2) cells slots) : VU X ws lv st pc cells slots := by
  obtain ⟨p, l, e, R, s, m, args, below, meth, c, Q, A, D, nL'⟩ := X
  obtain ⟨hx, hb, hml, hown, hts, hK, rfl, hroom, hcs, hA, hlk⟩ := h
  intro H locs ls hP hD hS hl
  exact lv_bipush hx hb hd hv (k H locs ls hP hD hS hl)
theorem u_sipush {X : CU} {cc : ByteArray} {own : String} {nL : Nat} {cI cZ cB : ClassId} {d mc ms : Nat} {ws : va_W} {lv : List (Nat × Value)} {st : List Value} {pc cells slots : Nat} (h : OkU X cc own nL cI cZ cB d mc ms) {i : Int} {v : Int32} (hd : decode cc pc = .ok (.sipush i, 3)) (hv : (Int16.ofInt i).toInt32 = v) (k : VU X ws lv (.int v :: st) (pc + 3) cells slots) : VU X ws lv st pc cells slots := by
  obtain ⟨p, l, e, R, s, m, args, below, meth, c, Q, A, D, nL'⟩ := X
  obtain ⟨hx, hb, hml, hown, hts, hK, rfl, hroom, hcs, hA, hlk⟩ := h
  intro H locs ls hP hD hS hl
  exact lv_sipush hx hb hd hv (k H locs ls hP hD hS hl)
theorem u_dup {X : CU} {cc : ByteArray} {own : String} {nL : Nat} {cI cZ cB : ClassId} {d mc ms : Nat} {ws : va_W} {lv : List (Nat × Value)} {st : List Value} {pc cells slots : Nat} (h : OkU X cc own nL cI cZ cB d mc ms) {va : Value} (hd : decode cc pc = .ok (.dup, 1)) (hc : va.category = 1) (k : VU X ws lv (va :: va :: st) (pc + 1) cells slots) : VU X ws lv (va :: st) pc cells slots := by
  obtain ⟨p, l, e, R, s, m, args, below, meth, c, Q, A, D, nL'⟩ := X
  obtain ⟨hx, hb, hml, hown, hts, hK, rfl, hroom, hcs, hA, hlk⟩ := h
  intro H locs ls hP hD hS hl
  exact lv_dup hx hb hd hc (k H locs ls hP hD hS hl)
theorem u_astore {X : CU} {cc : ByteArray} {own : String} {nL : Nat} {cI cZ cB : ClassId} {d mc ms : Nat} {ws : va_W} {lv : List (Nat × Value)} {st : List Value} {pc cells slots : Nat} (h : OkU X cc own nL cI cZ cB d mc ms) {q : Fin 4} {i x : Nat} {lv' : List (Nat × Value)} (hd : decode cc pc = .ok (.astore_n q, 1)) (hi : (q : Nat) = i) (hn : i < nL) (hk : lput i (.ref x) lv = lv') (k : VU X ws lv' st (pc + 1) cells slots) : VU X ws lv (.ref x :: st) pc cells slots := by
  obtain ⟨p, l, e, R, s, m, args, below, meth, c, Q, A, D, nL'⟩ := X
  obtain ⟨hx, hb, hml, hown, hts, hK, rfl, hroom, hcs, hA, hlk⟩ := h
  intro H locs ls hP hD hS hl
  exact lv_astore_n hx hb hd hi hl hn rfl (fun ls' hl' => k H locs ls' hP hD hS (hk ▸ lput_has hl'))
theorem u_new_int {X : CU} {cc : ByteArray} {own : String} {nL : Nat} {cI cZ cB : ClassId} {d mc ms : Nat} {ws : va_W} {lv : List (Nat × Value)} {st : List Value} {pc cells slots : Nat} (h : OkU X cc own nL cI cZ cB d mc ms) {N : Nat} (hN : N < 2 ^ 20) (hc1 : cells + 1 ≤ mc) (hs1 : slots + N ≤ ms) (hd : decode cc pc = .ok (.newarray .int, 2)) (k : ∀ q : Nat, VU X (ws ++ [(q, zA cI N)]) lv (.ref q :: st) (pc + 2) (cells + 1) (slots + N)) : VU X ws lv (.int (nI N) :: st) pc cells slots := by
  obtain ⟨p, l, e, R, s, m, args, below, meth, c, Q, A, D, nL'⟩ := X
  obtain ⟨hx, hb, hml, hown, hts, hK, rfl, hroom, hcs, hA, hlk⟩ := h
  intro H locs ls hP hD hS hl
  refine va_newa (atype := .int) (a0 := (N, .inl (fun _ => (0 : Int32)))) hx hb (hts (Cond.arrayClass .int) (ul_1 (k := 71) (by decide +kernel) rfl)) rfl hK hP hD hS hA (fun _ => rfl) (nI_pos (by omega)) (nI_clamp (by omega)) (by show N * 4 ≤ 536870912; omega) (by omega) (by omega) hd (fun q cA H1 hK1 hP1 hD1 hS1 => ?_)
  have e1 : s.vm.findClass ("[" ++ (FieldType.int).toString) = some cA := (hK1.2 3 (cA, .int) rfl).2
  have e2 : s.vm.findClass ("[" ++ (FieldType.int).toString) = some cI := (hK.2 0 (cI, .int) rfl).2
  have e3 : cA = cI := Option.some.inj (e1.symm.trans e2)
  subst e3
  exact k q H1 locs ls hP1 hD1 hS1 hl
theorem u_new_boolean {X : CU} {cc : ByteArray} {own : String} {nL : Nat} {cI cZ cB : ClassId} {d mc ms : Nat} {ws : va_W} {lv : List (Nat × Value)} {st : List Value} {pc cells slots : Nat} (h : OkU X cc own nL cI cZ cB d mc ms) {N : Nat} (hN : N < 2 ^ 20) (hc1 : cells + 1 ≤ mc) (hs1 : slots + N ≤ ms) (hd : decode cc pc = .ok (.newarray .boolean, 2)) (k : ∀ q : Nat, VU X (ws ++ [(q, zA cZ N)]) lv (.ref q :: st) (pc + 2) (cells + 1) (slots + N)) : VU X ws lv (.int (nI N) :: st) pc cells slots := by
  obtain ⟨p, l, e, R, s, m, args, below, meth, c, Q, A, D, nL'⟩ := X
  obtain ⟨hx, hb, hml, hown, hts, hK, rfl, hroom, hcs, hA, hlk⟩ := h
  intro H locs ls hP hD hS hl
  refine va_newa (atype := .boolean) (a0 := (N, .inl (fun _ => (0 : Int32)))) hx hb (hts (Cond.arrayClass .boolean) (ul_1 (k := 72) (by decide +kernel) rfl)) rfl hK hP hD hS hA (fun _ => rfl) (nI_pos (by omega)) (nI_clamp (by omega)) (by show N * 1 ≤ 536870912; omega) (by omega) (by omega) hd (fun q cA H1 hK1 hP1 hD1 hS1 => ?_)
  have e1 : s.vm.findClass ("[" ++ (FieldType.boolean).toString) = some cA := (hK1.2 3 (cA, .boolean) rfl).2
  have e2 : s.vm.findClass ("[" ++ (FieldType.boolean).toString) = some cZ := (hK.2 1 (cZ, .boolean) rfl).2
  have e3 : cA = cZ := Option.some.inj (e1.symm.trans e2)
  subst e3
  exact k q H1 locs ls hP1 hD1 hS1 hl
theorem u_new_byte {X : CU} {cc : ByteArray} {own : String} {nL : Nat} {cI cZ cB : ClassId} {d mc ms : Nat} {ws : va_W} {lv : List (Nat × Value)} {st : List Value} {pc cells slots : Nat} (h : OkU X cc own nL cI cZ cB d mc ms) {N : Nat} (hN : N < 2 ^ 20) (hc1 : cells + 1 ≤ mc) (hs1 : slots + N ≤ ms) (hd : decode cc pc = .ok (.newarray .byte, 2)) (k : ∀ q : Nat, VU X (ws ++ [(q, zA cB N)]) lv (.ref q :: st) (pc + 2) (cells + 1) (slots + N)) : VU X ws lv (.int (nI N) :: st) pc cells slots := by
  obtain ⟨p, l, e, R, s, m, args, below, meth, c, Q, A, D, nL'⟩ := X
  obtain ⟨hx, hb, hml, hown, hts, hK, rfl, hroom, hcs, hA, hlk⟩ := h
  intro H locs ls hP hD hS hl
  refine va_newa (atype := .byte) (a0 := (N, .inl (fun _ => (0 : Int32)))) hx hb (hts (Cond.arrayClass .byte) (ul_5 (k := 100) (by decide +kernel) rfl)) rfl hK hP hD hS hA (fun _ => rfl) (nI_pos (by omega)) (nI_clamp (by omega)) (by show N * 1 ≤ 536870912; omega) (by omega) (by omega) hd (fun q cA H1 hK1 hP1 hD1 hS1 => ?_)
  have e1 : s.vm.findClass ("[" ++ (FieldType.byte).toString) = some cA := (hK1.2 3 (cA, .byte) rfl).2
  have e2 : s.vm.findClass ("[" ++ (FieldType.byte).toString) = some cB := (hK.2 2 (cB, .byte) rfl).2
  have e3 : cA = cB := Option.some.inj (e1.symm.trans e2)
  subst e3
  exact k q H1 locs ls hP1 hD1 hS1 hl
theorem u_obj {X : CU} {cc : ByteArray} {own : String} {nL : Nat} {cI cZ cB : ClassId} {d mc ms : Nat} {ws : va_W} {lv : List (Nat × Value)} {st : List Value} {pc cells slots : Nat} (h : OkU X cc own nL cI cZ cB d mc ms) {idx a : Nat} (hw : Cond.methodLink own idx objectInit ∈ UL) (hd1 : 1 ≤ d) (hst : (st.map fun v => v.category).sum ≤ 8) (hd : decode cc pc = .ok (.invokespecial idx, 3)) (k : VU X ws lv st (pc + 3) cells slots) : VU X ws lv (.ref a :: st) pc cells slots := by
  obtain ⟨p, l, e, R, s, m, args, below, meth, c, Q, A, D, nL'⟩ := X
  obtain ⟨hx, hb, hml, hown, hts, hK, rfl, hroom, hcs, hA, hlk⟩ := h
  intro H locs ls hP hD hS hl
  refine W.objInit hx hb hown (hts _ hw) (hts (Cond.instanceMethod objectInit) (ul_1 (k := 21) (by decide +kernel) rfl)) (hts (Cond.code objectInit ⟨#[0xb1]⟩ 1 none) (ul_1 (k := 22) (by decide +kernel) rfl)) rfl (by rw [hml]; exact hl.1) rfl hd (by omega) ?_ ?_
  · have h0 : 2 * (F0 m pc ls (.ref a :: st)).monitorRoom + (st.map fun v => v.category).sum ≤ 8 := lv_room hst
    omega
  · exact W.eq (g2 := F0 m (pc + 3) ls st) rfl (k H locs ls hP hD hS hl)
theorem u_putF {X : CU} {cc : ByteArray} {own : String} {nL : Nat} {cI cZ cB : ClassId} {d mc ms : Nat} {ws : va_W} {lv : List (Nat × Value)} {st : List Value} {pc cells slots : Nat} (h : OkU X cc own nL cI cZ cB d mc ms) {idx ci j q0 a : Nat} {v : Value} {ty : FieldType} {fs : List Value} {ws' : va_W} (hf : FL own idx ci j) (hin : InU X) (he : ws[q0]? = some (a, .inr (ci, fs))) (hl0 : j < fs.length) (hty : ∀ q : vw_C, cls11[ci]? = some q → (q.2.1 j).2.2.2 = true ∧ parseFieldDescriptor (q.2.1 j).2.2.1 = some ty ∧ (q.2.1 j).1 = own) (hnr : narrow ty v = v) (hft : fits ty v = true) (hw : ws.set q0 (a, .inr (ci, fs.set j v)) = ws') (hd : decode cc pc = .ok (.putfield idx, 3)) (k : VU X ws' lv st (pc + 3) cells slots) : VU X ws lv (v :: .ref a :: st) pc cells slots := by
  obtain ⟨p, l, e, R, s, m, args, below, meth, c, Q, A, D, nL'⟩ := X
  obtain ⟨hx, hb, hml, hown, hts, hK, rfl, hroom, hcs, hA, hlk⟩ := h
  intro H locs ls hP hD hS hl
  obtain ⟨⟨C, T, N⟩, hc, hj, hw9⟩ := hf
  obtain ⟨ty0, hty0⟩ := cls_ty ci _ hc
  subst hw
  refine va_putF (C := C) (T := T) (N := N) hx hb hts (cls_in ci _ hc) ty0 hty0 (cls_nm ci _ hc) hown hK hP hD hS q0 he hc j hj (hts _ hw9) (fun _ h9 => h9) (hty _ hc).1 hin (hty _ hc).2.2 (hty _ hc).2.1 hnr hft hl0 hd (fun H1 locs1 hP1 hD1 hS1 => k H1 locs1 ls hP1 hD1 hS1 hl)
theorem u_put {X : CU} {cc : ByteArray} {own : String} {nL : Nat} {cI cZ cB : ClassId} {d mc ms : Nat} {ws : va_W} {lv : List (Nat × Value)} {st : List Value} {pc cells slots : Nat} (h : OkU X cc own nL cI cZ cB d mc ms) {idx ci j q0 a : Nat} {v : Value} {ty : FieldType} {fs : List Value} {ws' : va_W} (hf : FL own idx ci j) (he : ws[q0]? = some (a, .inr (ci, fs))) (hl0 : j < fs.length) (hty : ∀ q : vw_C, cls11[ci]? = some q → (q.2.1 j).2.2.2 = false ∧ parseFieldDescriptor (q.2.1 j).2.2.1 = some ty) (hnr : narrow ty v = v) (hft : fits ty v = true) (hw : ws.set q0 (a, .inr (ci, fs.set j v)) = ws') (hd : decode cc pc = .ok (.putfield idx, 3)) (k : VU X ws' lv st (pc + 3) cells slots) : VU X ws lv (v :: .ref a :: st) pc cells slots := by
  obtain ⟨p, l, e, R, s, m, args, below, meth, c, Q, A, D, nL'⟩ := X
  obtain ⟨hx, hb, hml, hown, hts, hK, rfl, hroom, hcs, hA, hlk⟩ := h
  intro H locs ls hP hD hS hl
  obtain ⟨⟨C, T, N⟩, hc, hj, hw9⟩ := hf
  obtain ⟨ty0, hty0⟩ := cls_ty ci _ hc
  subst hw
  refine va_put (C := C) (T := T) (N := N) hx hb hts (cls_in ci _ hc) ty0 hty0 (cls_nm ci _ hc) hown hK hP hD hS q0 he hc j hj (hts _ hw9) (fun _ h9 => h9) (hty _ hc).1 (hty _ hc).2 hnr hft hl0 hd (fun H1 locs1 hP1 hD1 hS1 => k H1 locs1 ls hP1 hD1 hS1 hl)
theorem u_get {X : CU} {cc : ByteArray} {own : String} {nL : Nat} {cI cZ cB : ClassId} {d mc ms : Nat} {ws : va_W} {lv : List (Nat × Value)} {st : List Value} {pc cells slots : Nat} (h : OkU X cc own nL cI cZ cB d mc ms) {idx ci j q0 a : Nat} {v : Value} {fs : List Value} (hf : FL own idx ci j) (he : ws[q0]? = some (a, .inr (ci, fs))) (hv : fs[j]? = some v) (hd : decode cc pc = .ok (.getfield idx, 3)) (k : VU X ws lv (v :: st) (pc + 3) cells slots) : VU X ws lv (.ref a :: st) pc cells slots := by
  obtain ⟨p, l, e, R, s, m, args, below, meth, c, Q, A, D, nL'⟩ := X
  obtain ⟨hx, hb, hml, hown, hts, hK, rfl, hroom, hcs, hA, hlk⟩ := h
  intro H locs ls hP hD hS hl
  obtain ⟨⟨C, T, N⟩, hc, hj, hw9⟩ := hf
  exact va_get (C := C) (T := T) (N := N) hx hb hts (cls_in ci _ hc) hown hK hP q0 he hc j hj (hts _ hw9) (fun _ h9 => h9) hv hd (k H locs ls hP hD hS hl)
theorem u_iast {X : CU} {cc : ByteArray} {own : String} {nL : Nat} {cI cZ cB : ClassId} {d mc ms : Nat} {ws : va_W} {lv : List (Nat × Value)} {st : List Value} {pc cells slots : Nat} (h : OkU X cc own nL cI cZ cB d mc ms) {q0 a len i : Nat} {x : Int32} {f : Nat → Int32} {ws' : va_W} (he : ws[q0]? = some (a, .inl (cI, len, .inl f))) (hi : i < len) (hlen : len < 2 ^ 31) (hw : ws.set q0 (a, .inl (cI, len, .inl (upd f i x))) = ws') (hd : decode cc pc = .ok (.iastore, 1)) (k : VU X ws' lv st (pc + 1) cells slots) : VU X ws lv (.int x :: .int (nI i) :: .ref a :: st) pc cells slots := by
  obtain ⟨p, l, e, R, s, m, args, below, meth, c, Q, A, D, nL'⟩ := X
  obtain ⟨hx, hb, hml, hown, hts, hK, rfl, hroom, hcs, hA, hlk⟩ := h
  intro H locs ls hP hD hS hl
  subst hw
  refine va_iast hx hb hK hP hD hS q0 0 he rfl (vp_in_nI hi hlen) hd (fun H1 locs1 hP1 hD1 hS1 => k H1 locs1 ls ?_ ?_ hS1 hl)
  · rw [nI_clamp (Nat.lt_trans hi hlen)] at hP1
    exact hP1
  · rw [nI_clamp (Nat.lt_trans hi hlen)] at hD1
    exact hD1
theorem u_new {X : CU} {cc : ByteArray} {own : String} {nL : Nat} {cI cZ cB : ClassId} {d mc ms : Nat} {ws : va_W} {lv : List (Nat × Value)} {st : List Value} {pc cells slots : Nat} (h : OkU X cc own nL cI cZ cB d mc ms) {idx ci : Nat} {C : String} {T : u_T} {N : Nat} {fs : List Value} (hc : cls11[ci]? = some (C, T, N)) (h1 : Cond.classLink own idx C ∈ UL) (h2 : Cond.instantiable C N ∈ UL) (h3 : Cond.initialized C ∈ UL) (ty : Nat → FieldType) (hty : ∀ k, k < N → parseFieldDescriptor (T k).2.2.1 = some (ty k)) (hfs : ∀ j, j < N → defaultValue (ty j) = vp_V fs j) (hc1 : cells + 1 ≤ mc) (hs1 : slots + N ≤ ms) (hd : decode cc pc = .ok (.new idx, 3)) (k : ∀ q : Nat, VU X (ws ++ [(q, .inr (ci, fs))]) lv (.ref q :: st) (pc + 3) (cells + 1) (slots + N)) : VU X ws lv st pc cells slots := by
  obtain ⟨p, l, e, R, s, m, args, below, meth, c, Q, A, D, nL'⟩ := X
  obtain ⟨hx, hb, hml, hown, hts, hK, rfl, hroom, hcs, hA, hlk⟩ := h
  intro H locs ls hP hD hS hl
  exact va_new (C := C) (T := T) (N := N) hx hb hts (cls_in ci _ hc) ty hty hown (hts _ h1) (hts _ h2) (hts _ h3) hK hP hD hS hA hc hfs (by omega) (by omega) hd (fun q H1 hP1 hD1 hS1 => k q H1 locs ls hP1 hD1 hS1 hl)
theorem u_callIN {X : CU} {cc : ByteArray} {nL : Nat} {cI cZ cB : ClassId} {d mc ms : Nat} {ws : va_W} {lv : List (Nat × Value)} {st : List Value} {pc cells slots : Nat} (h : OkU X cc RX9 nL cI cZ cB d mc ms) {y : MethodName} {ccy : ByteArray} {ci dy mcy msy idx q : Nat} {fs0 : List Value} {ex : State → Prop} {wi : ClassId → ClassId → ClassId → (Nat → Nat) → va_W} (hM : AI y ccy ci fs0 dy mcy msy ex wi) (hex : Blind ex) (hexs : match X with | (_, _, _, _, s, _) => ∀ U : State, s.WarmedH U.vm → ex U) (hnw : NeU X idx y) (hinst : Cond.instanceMethod y ∈ UL) (hini : Cond.initialized y.cls ∈ UL) (hcode : Cond.code y ccy 1 none ∈ UL) (hy2 : y.name = "<init>") (hpd : y.cls ≠ "java/lang/invoke/MethodHandle" ∧ y.cls ≠ "java/lang/invoke/VarHandle" ∧ (parseMethodDescriptor y.desc).map (fun d => d.parameters.length) = some 0) (hdy : dy < d) (hc1 : cells + mcy ≤ mc) (hs1 : slots + msy ≤ ms) (hst : (st.map fun v => v.category).sum ≤ 8) (hd : decode cc pc = .ok (.invokespecial idx, 3)) (k : ∀ a : Nat → Nat, a 0 = q → VU X (ws ++ wi cI cZ cB a) lv st (pc + 3) (cells + mcy) (slots + msy)) : VU X (ws ++ [(q, .inr (ci, fs0))]) lv (.ref q :: st) pc cells slots := by
  obtain ⟨p, l, e, R, s, m, args, below, meth, c, Q, A, D, nL'⟩ := X
  obtain ⟨hx, hb, hml, hown, hts, hK, rfl, hroom, hcs, hA, hlk⟩ := h
  intro H locs ls hP hD hS hl
  have hG : ∀ w ∈ UW y ccy 1 none, w ∈ UL := fun w hw => (List.mem_cons.mp hw).elim (fun z => z ▸ hcode) (fun z => z)
  have hlast : (ws ++ [(q, Sum.inr (ci, fs0))])[ws.length]? = some (q, .inr (ci, fs0)) := by rw [List.getElem?_append_right (Nat.le_refl _), Nat.sub_self]; rfl
  have hP0 : va_P D cls11 [(q, .inr (ci, fs0))] H := fun k2 x hx2 => by
    have hz : k2 < 1 := (List.getElem?_eq_some_iff.mp hx2).1
    rw [show k2 = 0 by omega] at hx2
    cases hx2
    exact hP _ _ hlast
  have hD0 : va_D A [(q, Sum.inr (ci, fs0))] := ⟨fun i j x y hi hj _ => by
    have h1 : i < 1 := (List.getElem?_eq_some_iff.mp hi).1
    have h2 : j < 1 := (List.getElem?_eq_some_iff.mp hj).1
    omega, fun k2 x hx2 => by
    have hz : k2 < 1 := (List.getElem?_eq_some_iff.mp hx2).1
    rw [show k2 = 0 by omega] at hx2
    cases hx2
    exact hD.2 _ _ hlast⟩
  have hF : ∀ x, va_A [(q, Sum.inr (ci, fs0))] H.size x → A x := by
    intro x hx2
    rcases hx2 with ⟨k2, e2, h2⟩ | h2
    · exact hD0.2 k2 (x, e2) h2
    · exact hA x (Nat.le_trans hS.1 h2)
  have hrun := va_runIN (As := []) (b := q) (rest := st) (g := F0 m pc ls (.ref q :: st)) (H := H) (locs := locs) (cells := cells) (slots := slots) (e := e) (below := below) (meth := meth) ⟨hx, hb, hml, hown, hts⟩ (hM l D cI cZ cB q H.size) ⟨va_cnB (host := "SteppingStones") 0 hts (wl_gi hG) rfl rfl rfl hnw (hts _ hini) hpd ⟨by show dy + 1 ≤ R.frames; omega, by show 8 + (1 + 11) + 64 * dy ≤ R.locals; omega⟩, hy2, hts _ hinst⟩ ⟨fun a U g mk q => by obtain ⟨q0, q1, qP, qK, qD, qE⟩ := q; exact ⟨q0, q1, qP, va_K.moved (u := U) (U := U.calling g mk a) (Vm.Alike.refl U.vm) qK, qD, hex U (U.calling g mk a) rfl qE⟩, fun U hU hW => ⟨rfl, by rw [hU], by rw [hU]; exact hP0, va_K.moved hW.alike hK, hD0.weaken (fun _ _ _ _ => trivial), hexs U hW⟩⟩ rfl rfl hl.1 rfl (lv_room hst) hd ⟨by omega, by omega⟩
  intro T hT X0
  obtain ⟨v, st₀, t, T', L, h0, X', hL, e1, e2, ⟨⟨a, hv, ha0, hP1, hK1, hD1⟩, hz, hk9⟩, stp⟩ := hrun T hT X0
  cases hv
  rw [h0] at hz hk9
  obtain ⟨hP2, hD2⟩ := wj hP hD hk9 hF hP1 hD1
  obtain ⟨t2, a1, b1⟩ := k a ha0 T'.heap (locs ++ L) ls (by rw [e1]; exact hP2) hD2
    ⟨Nat.le_trans hS.1 (by rw [e1]; exact hz), fun x h1 h2 => by rw [e1, hk9 x (Nat.lt_of_lt_of_le h1 hS.1) (fun z => h2 (hF x z))]; exact hS.2.1 x h1 h2, fun x hx2 => by
      rcases List.mem_append.mp hx2 with h | h
      · exact hS.2.2 x h
      · exact hF _ (hL x h)⟩ hl T' rfl X'
  exact ⟨t2, stp t2 a1, b1⟩
theorem u_callI {X : CU} {cc : ByteArray} {own : String} {nL : Nat} {cI cZ cB : ClassId} {d mc ms : Nat} {ws : va_W} {lv : List (Nat × Value)} {st : List Value} {pc cells slots : Nat} (h : OkU X cc own nL cI cZ cB d mc ms) {y : MethodName} {ccy : ByteArray} {ci dy mcy msy idx q : Nat} {fs0 : List Value} {ex : State → Prop} {wi : ClassId → ClassId → ClassId → (Nat → Nat) → va_W} (hM : AI y ccy ci fs0 dy mcy msy ex wi) (hex : Blind ex) (hexs : match X with | (_, _, _, _, s, _) => ∀ U : State, s.WarmedH U.vm → ex U) (hml0 : Cond.methodLink own idx y ∈ UL) (hinst : Cond.instanceMethod y ∈ UL) (hini : Cond.initialized y.cls ∈ UL) (hcode : Cond.code y ccy 1 none ∈ UL) (hy2 : y.name = "<init>") (hpd : y.cls ≠ "java/lang/invoke/MethodHandle" ∧ y.cls ≠ "java/lang/invoke/VarHandle" ∧ (parseMethodDescriptor y.desc).map (fun d => d.parameters.length) = some 0) (hdy : dy < d) (hc1 : cells + mcy ≤ mc) (hs1 : slots + msy ≤ ms) (hst : (st.map fun v => v.category).sum ≤ 8) (hd : decode cc pc = .ok (.invokespecial idx, 3)) (k : ∀ a : Nat → Nat, a 0 = q → VU X (ws ++ wi cI cZ cB a) lv st (pc + 3) (cells + mcy) (slots + msy)) : VU X (ws ++ [(q, .inr (ci, fs0))]) lv (.ref q :: st) pc cells slots := by
  obtain ⟨p, l, e, R, s, m, args, below, meth, c, Q, A, D, nL'⟩ := X
  obtain ⟨hx, hb, hml, hown, hts, hK, rfl, hroom, hcs, hA, hlk⟩ := h
  intro H locs ls hP hD hS hl
  have hG : ∀ w ∈ UW y ccy 1 none, w ∈ UL := fun w hw => (List.mem_cons.mp hw).elim (fun z => z ▸ hcode) (fun z => z)
  have hlast : (ws ++ [(q, Sum.inr (ci, fs0))])[ws.length]? = some (q, .inr (ci, fs0)) := by rw [List.getElem?_append_right (Nat.le_refl _), Nat.sub_self]; rfl
  have hP0 : va_P D cls11 [(q, .inr (ci, fs0))] H := fun k2 x hx2 => by
    have hz : k2 < 1 := (List.getElem?_eq_some_iff.mp hx2).1
    rw [show k2 = 0 by omega] at hx2
    cases hx2
    exact hP _ _ hlast
  have hD0 : va_D A [(q, Sum.inr (ci, fs0))] := ⟨fun i j x y hi hj _ => by
    have h1 : i < 1 := (List.getElem?_eq_some_iff.mp hi).1
    have h2 : j < 1 := (List.getElem?_eq_some_iff.mp hj).1
    omega, fun k2 x hx2 => by
    have hz : k2 < 1 := (List.getElem?_eq_some_iff.mp hx2).1
    rw [show k2 = 0 by omega] at hx2
    cases hx2
    exact hD.2 _ _ hlast⟩
  have hF : ∀ x, va_A [(q, Sum.inr (ci, fs0))] H.size x → A x := by
    intro x hx2
    rcases hx2 with ⟨k2, e2, h2⟩ | h2
    · exact hD0.2 k2 (x, e2) h2
    · exact hA x (Nat.le_trans hS.1 h2)
  have hrun := va_runI (As := []) (b := q) (rest := st) (g := F0 m pc ls (.ref q :: st)) (H := H) (locs := locs) (cells := cells) (slots := slots) (e := e) (below := below) (meth := meth) ⟨hx, hb, hml, hown, hts⟩ (hM l D cI cZ cB q H.size) (cwI 0 hts (wl_gi hG) rfl rfl rfl (hts _ hini) (hts _ hml0) (hts _ hinst) hy2 hpd ⟨by show dy + 1 ≤ R.frames; omega, by show 8 + (1 + 11) + 64 * dy ≤ R.locals; omega⟩) ⟨fun a U g mk q => by obtain ⟨q0, q1, qP, qK, qD, qE⟩ := q; exact ⟨q0, q1, qP, va_K.moved (u := U) (U := U.calling g mk a) (Vm.Alike.refl U.vm) qK, qD, hex U (U.calling g mk a) rfl qE⟩, fun U hU hW => ⟨rfl, by rw [hU], by rw [hU]; exact hP0, va_K.moved hW.alike hK, hD0.weaken (fun _ _ _ _ => trivial), hexs U hW⟩⟩ rfl rfl hl.1 rfl (lv_room hst) hd ⟨by omega, by omega⟩
  intro T hT X0
  obtain ⟨v, st₀, t, T', L, h0, X', hL, e1, e2, ⟨⟨a, hv, ha0, hP1, hK1, hD1⟩, hz, hk9⟩, stp⟩ := hrun T hT X0
  cases hv
  rw [h0] at hz hk9
  obtain ⟨hP2, hD2⟩ := wj hP hD hk9 hF hP1 hD1
  obtain ⟨t2, a1, b1⟩ := k a ha0 T'.heap (locs ++ L) ls (by rw [e1]; exact hP2) hD2
    ⟨Nat.le_trans hS.1 (by rw [e1]; exact hz), fun x h1 h2 => by rw [e1, hk9 x (Nat.lt_of_lt_of_le h1 hS.1) (fun z => h2 (hF x z))]; exact hS.2.1 x h1 h2, fun x hx2 => by
      rcases List.mem_append.mp hx2 with h | h
      · exact hS.2.2 x h
      · exact hF _ (hL x h)⟩ hl T' rfl X'
  exact ⟨t2, stp t2 a1, b1⟩
theorem u_wd {X : CU} {ws ws' : va_W} {lv : List (Nat × Value)} {st : List Value} {pc cells slots : Nat} (h : ws = ws') (k : VU X ws' lv st pc cells slots) : VU X ws lv st pc cells slots := h ▸ k
theorem u_cs {X : CU} {ws : va_W} {lv : List (Nat × Value)} {st : List Value} {pc cells slots cells' slots' : Nat} (h1 : cells = cells') (h2 : slots = slots') (k : VU X ws lv st pc cells' slots') : VU X ws lv st pc cells slots := h1 ▸ h2 ▸ k
theorem u_vret {X : CU} {cc : ByteArray} {own : String} {nL : Nat} {cI cZ cB : ClassId} {d mc ms : Nat} {ws : va_W} {lv : List (Nat × Value)} {pc cells slots : Nat} (h : OkU X cc own nL cI cZ cB d mc ms) {wi : (Nat → Nat) → va_W} {h0 : Nat} (hr : ReU X cI cZ cB wi h0 mc ms) (a : Nat → Nat) (ha : a 0 = h0) (hw : ws = wi a) (hc1 : cells ≤ mc) (hs1 : slots ≤ ms) (hd : decode cc pc = .ok (.return_, 1)) : VU X ws lv [] pc cells slots := by
  obtain ⟨p, l, e, R, s, m, args, below, meth, c, Q, A, D, nL'⟩ := X
  obtain ⟨hx, hb, hml, hown, hts, hK, rfl, hroom, hcs, hA, hlk⟩ := h
  intro H locs ls hP hD hS hl
  obtain ⟨hr1, rfl⟩ := hr
  subst hw
  refine W.widen (k := mc) (n := ms) hc1 hs1 ?_
  exact W.vret hx hb hr1 (fun t ht hW => ⟨⟨a, rfl, ha, by rw [ht]; exact hP, va_K.moved hW.alike hK, hD⟩, hS.F ht⟩) hS.2.2 hd hlk
