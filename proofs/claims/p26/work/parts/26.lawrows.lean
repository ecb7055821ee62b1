/-! THE CLAIM OUT OF ONE WALK OF THE LAW'S BODY. Your part is whole_start (and what it stands on); all else here is the same for every law, but numbers. -/
def R_law : String := "SteppingStonesLaw"
def lw_P (b : Addr) (xs : List Int32) (args : Array Value) (s : State) : Prop := args = #[.ref b] ∧ s.IntsAt b xs ∧ xs.length ≤ 3072 ∧ (Jvm.Cond.and given_1 narrow_1).before args s = true
def lw_Q (_ : Array Value) (s : State) (o : Outcome) (t : State) : Prop := o = .returned (some (.int 1)) ∧ Framed s o t [] 600000 7302250
def lw_Z (below : List Frame) (a : Array Value) (s : State) : State → Prop := fun t => ∃ o, t.status = .running ∧ Ended t below o ∧ lw_Q a s o t
/-- the law's own end, with 1 on the stack, nothing written that was there before, its room as the claim has it -/
theorem lw_ret {p : Program} {l : Launch} {e : Env} {s : State} {m : MethodId} {below : List Frame} {meth : Method} {c : Code} {b : Nat} (hx : p.tables.exec = Jvm.exec) (hb : c.code = code) (hr : meth.sig.returnType = ret) (hlocks : meth.locks = false) {pc : Nat} {H : Heap} {ls : Array Slot} (hdg : decode code pc = .ok (.ireturn, 1)) : W p l e room_1 s m #[Value.ref b] below meth c H [] 600000 7302250 (lw_Z below #[Value.ref b] s) (F0 m pc ls [.int 1]) := by
  intro T hT X
  obtain ⟨fs, hret, hrun, hended, hW, hframe⟩ := X.leave (v := some (.int 1)) (hlocks := hlocks) (fun h => by rw [hr] at h; cases h)
  have hmeth' : T.vm.method? m = some meth := X.method'
  refine ⟨T.setFrames fs, ?_, .returned (some (.int 1)), hrun, hended, rfl, ⟨_, rfl⟩, hW, hframe⟩
  jvm_step X.here [X.here.top, hx, hb, hdg, hmeth', hr, ret, narrow_b1]
  (try refine ⟨rfl, ?_⟩); (try refine ⟨rfl, ?_⟩)
  first | (intro acts; rw [hret _ acts rfl rfl rfl]) | rw [hret _ _ rfl rfl rfl]
  exact Steps.refl _
/-- what holds at the law's entry: the machine, the code, the tables' words (any of lw_tbl by 'hts w (by decide +kernel)'), the script of L ints xs at the cell b, what the Statement gives of the start (any of its parts by flat_of_before) -/
def lw_At (p : Program) (s : State) (m : MethodId) (meth : Method) (c : Code) (b L : Nat) (xs : Nat → Int32) : Prop :=
  p.tables.exec = Jvm.exec ∧ c.code = code ∧ meth.sig.returnType = ret ∧ c.maxLocals = 4 ∧ s.vm.findClass R_law = some m.cls ∧ (∀ w ∈ lw_tbl, w.before #[Value.ref b] s = true) ∧ va_X b L xs s s.heap ∧ b < s.heap.size ∧ meth.locks = false ∧ (Jvm.Cond.and given_1 narrow_1).before #[Value.ref b] s = true
theorem u_iload {X : CU} {cc : ByteArray} {own : String} {nL : Nat} {cI cZ cB : ClassId} {d mc ms : Nat} {ws : va_W} {lv : List (Nat × Value)} {st : List Value} {pc cells slots : Nat} (h : OkU X cc own nL cI cZ cB d mc ms) {q : Fin 4} {i kk : Nat} {x : Int32} (hd : decode cc pc = .ok (.iload_n q, 1)) (hi : (q : Nat) = i) (hk : lv[kk]? = some (i, .int x)) (k : VU X ws lv (.int x :: st) (pc + 1) cells slots) : VU X ws lv (st) pc cells slots := by
  obtain ⟨p, l, e, R, s, m, args, below, meth, c, Q, A, D, nL'⟩ := X
  obtain ⟨hx, hb, hml, hown, hts, hK, rfl, hroom, hcs, hA, hlk⟩ := h
  intro H locs ls hP hD hS hl
  exact lv_iload_n hx hb hd hi (lv_at hl kk hk) (k H locs ls hP hD hS hl)
theorem u_istore {X : CU} {cc : ByteArray} {own : String} {nL : Nat} {cI cZ cB : ClassId} {d mc ms : Nat} {ws : va_W} {lv : List (Nat × Value)} {st : List Value} {pc cells slots : Nat} (h : OkU X cc own nL cI cZ cB d mc ms) {q : Fin 4} {i : Nat} {x : Int32} {lv' : List (Nat × Value)} (hd : decode cc pc = .ok (.istore_n q, 1)) (hi : (q : Nat) = i) (hn : i < nL) (hk : lput i (.int x) lv = lv') (k : VU X ws lv' st (pc + 1) cells slots) : VU X ws lv (.int x :: st) pc cells slots := by
  obtain ⟨p, l, e, R, s, m, args, below, meth, c, Q, A, D, nL'⟩ := X
  obtain ⟨hx, hb, hml, hown, hts, hK, rfl, hroom, hcs, hA, hlk⟩ := h
  intro H locs ls hP hD hS hl
  exact lv_istore_n hx hb hd hi hl hn rfl (fun ls' hl' => k H locs ls' hP hD hS (hk ▸ lput_has hl'))
theorem u_iinc {X : CU} {cc : ByteArray} {own : String} {nL : Nat} {cI cZ cB : ClassId} {d mc ms : Nat} {ws : va_W} {lv : List (Nat × Value)} {st : List Value} {pc cells slots : Nat} (h : OkU X cc own nL cI cZ cB d mc ms) {i kk : Nat} {c0 : Int} {x v : Int32} {lv' : List (Nat × Value)} (hd : decode cc pc = .ok (.iinc i c0, 3)) (hv : x + Int32.ofInt c0 = v) (hn : i < nL) (hk : lv[kk]? = some (i, .int x)) (hk2 : lput i (.int v) lv = lv') (k : VU X ws lv' st (pc + 3) cells slots) : VU X ws lv (st) pc cells slots := by
  obtain ⟨p, l, e, R, s, m, args, below, meth, c, Q, A, D, nL'⟩ := X
  obtain ⟨hx, hb, hml, hown, hts, hK, rfl, hroom, hcs, hA, hlk⟩ := h
  intro H locs ls hP hD hS hl
  exact lv_iinc hx hb hd hl hk hv hn rfl (fun ls' hl' => k H locs ls' hP hD hS (hk2 ▸ lput_has hl'))
theorem u_iadd {X : CU} {cc : ByteArray} {own : String} {nL : Nat} {cI cZ cB : ClassId} {d mc ms : Nat} {ws : va_W} {lv : List (Nat × Value)} {st : List Value} {pc cells slots : Nat} (h : OkU X cc own nL cI cZ cB d mc ms) {x y : Int32} (hd : decode cc pc = .ok (.iadd, 1)) (k : VU X ws lv (.int (x + y) :: st) (pc + 1) cells slots) : VU X ws lv (.int y :: .int x :: st) pc cells slots := by
  obtain ⟨p, l, e, R, s, m, args, below, meth, c, Q, A, D, nL'⟩ := X
  obtain ⟨hx, hb, hml, hown, hts, hK, rfl, hroom, hcs, hA, hlk⟩ := h
  intro H locs ls hP hD hS hl
  exact lv_iadd hx hb hd (k H locs ls hP hD hS hl)
theorem u_isub {X : CU} {cc : ByteArray} {own : String} {nL : Nat} {cI cZ cB : ClassId} {d mc ms : Nat} {ws : va_W} {lv : List (Nat × Value)} {st : List Value} {pc cells slots : Nat} (h : OkU X cc own nL cI cZ cB d mc ms) {x y : Int32} (hd : decode cc pc = .ok (.isub, 1)) (k : VU X ws lv (.int (x - y) :: st) (pc + 1) cells slots) : VU X ws lv (.int y :: .int x :: st) pc cells slots := by
  obtain ⟨p, l, e, R, s, m, args, below, meth, c, Q, A, D, nL'⟩ := X
  obtain ⟨hx, hb, hml, hown, hts, hK, rfl, hroom, hcs, hA, hlk⟩ := h
  intro H locs ls hP hD hS hl
  exact lv_isub hx hb hd (k H locs ls hP hD hS hl)
theorem u_iand {X : CU} {cc : ByteArray} {own : String} {nL : Nat} {cI cZ cB : ClassId} {d mc ms : Nat} {ws : va_W} {lv : List (Nat × Value)} {st : List Value} {pc cells slots : Nat} (h : OkU X cc own nL cI cZ cB d mc ms) {x y : Int32} (hd : decode cc pc = .ok (.iand, 1)) (k : VU X ws lv (.int (x &&& y) :: st) (pc + 1) cells slots) : VU X ws lv (.int y :: .int x :: st) pc cells slots := by
  obtain ⟨p, l, e, R, s, m, args, below, meth, c, Q, A, D, nL'⟩ := X
  obtain ⟨hx, hb, hml, hown, hts, hK, rfl, hroom, hcs, hA, hlk⟩ := h
  intro H locs ls hP hD hS hl
  exact lv_iand hx hb hd (k H locs ls hP hD hS hl)
theorem u_goto {X : CU} {cc : ByteArray} {own : String} {nL : Nat} {cI cZ cB : ClassId} {d mc ms : Nat} {ws : va_W} {lv : List (Nat × Value)} {st : List Value} {pc cells slots : Nat} (h : OkU X cc own nL cI cZ cB d mc ms) {off : Int} {tgt : Nat} (hd : decode cc pc = .ok (.goto off, 3)) (ht : (pc : Int) + off = (tgt : Int)) (k : VU X ws lv (st) tgt cells slots) : VU X ws lv (st) pc cells slots := by
  obtain ⟨p, l, e, R, s, m, args, below, meth, c, Q, A, D, nL'⟩ := X
  obtain ⟨hx, hb, hml, hown, hts, hK, rfl, hroom, hcs, hA, hlk⟩ := h
  intro H locs ls hP hD hS hl
  exact lv_goto hx hb hd ht (k H locs ls hP hD hS hl)
theorem u_icmp_eq {X : CU} {cc : ByteArray} {own : String} {nL : Nat} {cI cZ cB : ClassId} {d mc ms : Nat} {ws : va_W} {lv : List (Nat × Value)} {st : List Value} {pc cells slots : Nat} (h : OkU X cc own nL cI cZ cB d mc ms) {x y : Int32} {off : Int} {tgt : Nat} (hd : decode cc pc = .ok (.if_icmp .eq off, 3)) (ht : (pc : Int) + off = (tgt : Int)) (kt : x = y → VU X ws lv (st) tgt cells slots) (kf : ¬ x = y → VU X ws lv (st) (pc + 3) cells slots) : VU X ws lv (.int y :: .int x :: st) pc cells slots := by
  obtain ⟨p, l, e, R, s, m, args, below, meth, c, Q, A, D, nL'⟩ := X
  obtain ⟨hx, hb, hml, hown, hts, hK, rfl, hroom, hcs, hA, hlk⟩ := h
  intro H locs ls hP hD hS hl
  exact lv_icmp_eq hx hb hd ht (fun c9 => kt c9 H locs ls hP hD hS hl) (fun c9 => kf c9 H locs ls hP hD hS hl)
theorem u_icmp_gt {X : CU} {cc : ByteArray} {own : String} {nL : Nat} {cI cZ cB : ClassId} {d mc ms : Nat} {ws : va_W} {lv : List (Nat × Value)} {st : List Value} {pc cells slots : Nat} (h : OkU X cc own nL cI cZ cB d mc ms) {x y : Int32} {off : Int} {tgt : Nat} (hd : decode cc pc = .ok (.if_icmp .gt off, 3)) (ht : (pc : Int) + off = (tgt : Int)) (kt : y < x → VU X ws lv (st) tgt cells slots) (kf : ¬ y < x → VU X ws lv (st) (pc + 3) cells slots) : VU X ws lv (.int y :: .int x :: st) pc cells slots := by
  obtain ⟨p, l, e, R, s, m, args, below, meth, c, Q, A, D, nL'⟩ := X
  obtain ⟨hx, hb, hml, hown, hts, hK, rfl, hroom, hcs, hA, hlk⟩ := h
  intro H locs ls hP hD hS hl
  exact lv_icmp_gt hx hb hd ht (fun c9 => kt c9 H locs ls hP hD hS hl) (fun c9 => kf c9 H locs ls hP hD hS hl)
theorem u_if_eq {X : CU} {cc : ByteArray} {own : String} {nL : Nat} {cI cZ cB : ClassId} {d mc ms : Nat} {ws : va_W} {lv : List (Nat × Value)} {st : List Value} {pc cells slots : Nat} (h : OkU X cc own nL cI cZ cB d mc ms) {x : Int32} {off : Int} {tgt : Nat} (hd : decode cc pc = .ok (.ifCond .eq off, 3)) (ht : (pc : Int) + off = (tgt : Int)) (kt : x = 0 → VU X ws lv (st) tgt cells slots) (kf : ¬ x = 0 → VU X ws lv (st) (pc + 3) cells slots) : VU X ws lv (.int x :: st) pc cells slots := by
  obtain ⟨p, l, e, R, s, m, args, below, meth, c, Q, A, D, nL'⟩ := X
  obtain ⟨hx, hb, hml, hown, hts, hK, rfl, hroom, hcs, hA, hlk⟩ := h
  intro H locs ls hP hD hS hl
  exact lv_if_eq hx hb hd ht (fun c9 => kt c9 H locs ls hP hD hS hl) (fun c9 => kf c9 H locs ls hP hD hS hl)
theorem u_tab {X : CU} {cc : ByteArray} {own : String} {nL : Nat} {cI cZ cB : ClassId} {d mc ms : Nat} {ws : va_W} {lv : List (Nat × Value)} {st : List Value} {pc cells slots : Nat} (h : OkU X cc own nL cI cZ cB d mc ms) {dflt lo hi : Int} {offs : Array Int} {len : Nat} {x : Int32} {off : Int} {tgt : Nat} (hd : decode cc pc = .ok (.tableswitch dflt lo hi offs, len)) (h1 : ¬ x.toInt < lo) (h2 : ¬ hi < x.toInt) (ho : offs[(x.toInt - lo).toNat]? = some off) (ht : (pc : Int) + off = (tgt : Int)) (k : VU X ws lv (st) tgt cells slots) : VU X ws lv (.int x :: st) pc cells slots := by
  obtain ⟨p, l, e, R, s, m, args, below, meth, c, Q, A, D, nL'⟩ := X
  obtain ⟨hx, hb, hml, hown, hts, hK, rfl, hroom, hcs, hA, hlk⟩ := h
  intro H locs ls hP hD hS hl
  exact lv_tableIn hx hb hd h1 h2 ho ht (k H locs ls hP hD hS hl)
theorem u_top {X : CU} {ws : va_W} {lv : List (Nat × Value)} {st : List Value} {pc cells slots : Nat} {x y : Int32} (h : x = y) (k : VU X ws lv (.int y :: st) pc cells slots) : VU X ws lv (.int x :: st) pc cells slots := h ▸ k
theorem u_lv {X : CU} {ws : va_W} {lv lv' : List (Nat × Value)} {st : List Value} {pc cells slots : Nat} (ks : List Nat) (h : lv_pick lv ks = lv') (k : VU X ws lv' st pc cells slots) : VU X ws lv st pc cells slots := by
  obtain ⟨p, l, e, R, s, m, args, below, meth, c, Q, A, D, nL'⟩ := X
  intro H locs ls hP hD hS hl
  exact k H locs ls hP hD hS (lv_sub hl ks h)
def ScU (X : CU) (b L : Nat) (xs : Nat → Int32) : Prop := match X with
  | (p, l, e, R, s, m, args, below, meth, c, Q, A, D, nL') => va_X b L xs s s.heap ∧ b < s.heap.size ∧ ¬ A b
theorem u_sld {X : CU} {cc : ByteArray} {own : String} {nL : Nat} {cI cZ cB : ClassId} {d mc ms : Nat} {ws : va_W} {lv : List (Nat × Value)} {st : List Value} {pc cells slots : Nat} (h : OkU X cc own nL cI cZ cB d mc ms) {b L i : Nat} {xs : Nat → Int32} (hSc : ScU X b L xs) (hL : L < 2 ^ 31) (hi : i < L) (hd : decode cc pc = .ok (.iaload, 1)) (k : VU X ws lv (.int (xs i) :: st) (pc + 1) cells slots) : VU X ws lv (.int (nI i) :: .ref b :: st) pc cells slots := by
  obtain ⟨p, l, e, R, s, m, args, below, meth, c, Q, A, D, nL'⟩ := X
  obtain ⟨hx, hb, hml, hown, hts, hK, rfl, hroom, hcs, hA, hlk⟩ := h
  intro H locs ls hP hD hS hl
  obtain ⟨q1, q2, q3⟩ := hSc
  exact va_sld hx hb q1 q2 q3 hS (vp_in_nI hi hL) hd (by rw [nI_clamp (Nat.lt_trans hi hL)]; exact k H locs ls hP hD hS hl)
theorem u_slen {X : CU} {cc : ByteArray} {own : String} {nL : Nat} {cI cZ cB : ClassId} {d mc ms : Nat} {ws : va_W} {lv : List (Nat × Value)} {st : List Value} {pc cells slots : Nat} (h : OkU X cc own nL cI cZ cB d mc ms) {b L : Nat} {xs : Nat → Int32} (hSc : ScU X b L xs) (hd : decode cc pc = .ok (.arraylength, 1)) (k : VU X ws lv (.int (nI L) :: st) (pc + 1) cells slots) : VU X ws lv (.ref b :: st) pc cells slots := by
  obtain ⟨p, l, e, R, s, m, args, below, meth, c, Q, A, D, nL'⟩ := X
  obtain ⟨hx, hb, hml, hown, hts, hK, rfl, hroom, hcs, hA, hlk⟩ := h
  intro H locs ls hP hD hS hl
  obtain ⟨q1, q2, q3⟩ := hSc
  exact va_slen hx hb q1 q2 q3 hS hd (k H locs ls hP hD hS hl)
theorem D_map {A : Nat → Prop} {W0 W1 : va_W} (h : W1.map (fun q => q.1) = W0.map (fun q => q.1)) (hD : va_D A W0) : va_D A W1 := by
  have key : ∀ (k : Nat) (q : Nat × va_E), W1[k]? = some q → ∃ q0, W0[k]? = some q0 ∧ q0.1 = q.1 := by
    intro k q hk
    have h1 : (W1.map (fun q => q.1))[k]? = some q.1 := by rw [List.getElem?_map, hk]; rfl
    rw [h, List.getElem?_map] at h1
    cases h0 : W0[k]? with
    | none => rw [h0] at h1; cases h1
    | some q0 => rw [h0] at h1; exact ⟨q0, rfl, Option.some.inj h1⟩
  refine ⟨fun i j x y hi hj hxy => ?_, fun k q hk => ?_⟩
  · obtain ⟨x0, h1, h2⟩ := key i x hi
    obtain ⟨y0, h3, h4⟩ := key j y hj
    exact hD.1 i j x0 y0 h1 h3 (h2.trans (hxy.trans h4.symm))
  · obtain ⟨q0, h1, h2⟩ := key k q hk
    rw [← h2]
    exact hD.2 k q0 h1
theorem wl_map {n : Nat} {ad : Nat → Nat} {g : Lay} {M : Mem} : (wl n ad g M).map (fun q => q.1) = (List.range n).map ad := by
  unfold wl
  rw [List.map_map]
  rfl
theorem mid_at {pre mid post : va_W} {k : Nat} {q : Nat × va_E} (h : mid[k]? = some q) : (pre ++ (mid ++ post))[pre.length + k]? = some q := by
  have hl := (List.getElem?_eq_some_iff.mp h).1
  rw [List.getElem?_append_right (by omega), Nat.add_sub_cancel_left, List.getElem?_append_left hl]
  exact h
theorem mid_cases {pre mid post : va_W} {k : Nat} {q : Nat × va_E} (h : (pre ++ (mid ++ post))[k]? = some q) : (k < pre.length) ∨ (∃ j, k = pre.length + j ∧ mid[j]? = some q) ∨ (pre.length + mid.length ≤ k) := by
  by_cases h1 : k < pre.length
  · exact Or.inl h1
  · rw [List.getElem?_append_right (by omega)] at h
    by_cases h2 : k - pre.length < mid.length
    · rw [List.getElem?_append_left h2] at h
      exact Or.inr (Or.inl ⟨k - pre.length, by omega, h⟩)
    · exact Or.inr (Or.inr (by omega))
theorem mid_swap {pre mid mid2 post : va_W} {k : Nat} {q : Nat × va_E} (hl : mid.length = mid2.length) (h : (pre ++ (mid2 ++ post))[k]? = some q) (hk : k < pre.length ∨ pre.length + mid.length ≤ k) : (pre ++ (mid ++ post))[k]? = some q := by
  rcases hk with hk | hk
  · rw [List.getElem?_append_left hk] at h ⊢
    exact h
  · rw [List.getElem?_append_right (by omega), List.getElem?_append_right (by omega)] at h ⊢
    rw [hl]
    exact h
theorem u_call {X : CU} {cc : ByteArray} {own : String} {nL : Nat} {cI cZ cB : ClassId} {d mc ms : Nat} {lv : List (Nat × Value)} {st : List Value} {pc cells slots : Nat} (h : OkU X cc own nL cI cZ cB d mc ms) {n : Nat} {ad : Nat → Nat} {gl : (Nat → Nat) → ClassId → ClassId → ClassId → Lay} {M : Mem} {post : va_W} (pre : va_W) {y : MethodName} {ccy : ByteArray} {maxL : Nat} {ret : Option FieldType} {dy idx nA kc ci : Nat} {av : (Nat → Nat) → List Value} {q : Int32 → Mem → Prop} {stk As : List Value} {qc : vw_C} {fs : (Nat → Int32) → List Value} (hM : AM y ccy maxL ret dy n gl av M (PI q)) (hmw : MV y ccy maxL ret nA) (hml0 : Cond.methodLink own idx y ∈ UL) (hdy : dy < d) (hmx : maxL ≤ 40) (ho : OB (gl ad cI cZ cB) n kc ci fs) (hc : cls11[ci]? = some qc) (hq : qc.1 = y.cls) (hav : av ad = .ref (ad kc) :: As) (hn : As.length = nA) (hcs1 : cells ≤ mc ∧ slots ≤ ms) (hs : stk = (av ad).reverse ++ st) (hst : (st.map fun v => v.category).sum ≤ 8) (hd : decode cc pc = .ok (.invokevirtual idx, 3))
    (k : ∀ (r : Int32) (M' : Mem), q r M' → VU X (pre ++ (wl n ad (gl ad cI cZ cB) M' ++ post)) lv (.int r :: st) (pc + 3) cells slots) : VU X (pre ++ (wl n ad (gl ad cI cZ cB) M ++ post)) lv stk pc cells slots := by
  subst hs
  obtain ⟨p, l, e, R, s, m, args, below, meth, c, Q, A, D, nL'⟩ := X
  obtain ⟨hx, hb, hml, hown, hts, hK, rfl, hroom, hcs, hA, hlk⟩ := h
  intro H locs ls hP hD hS hl
  have hP0 : va_P D cls11 (wl n ad (gl ad cI cZ cB) M) H := fun k2 x hx2 => hP _ _ (mid_at hx2)
  have hD0 : va_D A (wl n ad (gl ad cI cZ cB) M) := ⟨fun i j x y hi hj hxy => by
    have := hD.1 _ _ x y (mid_at hi) (mid_at hj) hxy
    omega, fun k2 x hx2 => hD.2 _ _ (mid_at hx2)⟩
  have hF : ∀ x, va_A (wl n ad (gl ad cI cZ cB) M) H.size x → A x := by
    intro x hx2
    rcases hx2 with ⟨k2, e2, h2⟩ | h2
    · exact hD0.2 k2 (x, e2) h2
    · exact hA x (Nat.le_trans hS.1 h2)
  have hrun := va_runV (As := As) (b := ad kc) (rest := st) (C := y.cls) (g := F0 m pc ls ((av ad).reverse ++ st)) (H := H) (locs := locs) (cells := cells) (slots := slots) (e := e) (below := below) (meth := meth) ⟨hx, hb, hml, hown, hts⟩ (hM l D cI cZ cB ad H.size) (cwV nA hts (wl_gi (mlv_gi hmw hml0)) rfl rfl rfl ⟨rfl, hmw.2⟩ ⟨by show dy + 1 ≤ R.frames; omega, by show 8 + (maxL + 11) + 64 * dy ≤ R.locals; omega⟩) ⟨fun a U g mk q => by obtain ⟨q0, q1, qP, qK, qD⟩ := q; exact ⟨q0, q1, qP, va_K.moved (u := U) (U := U.calling g mk a) (Vm.Alike.refl U.vm) qK, qD⟩, by have hr9 := va_recv hK hP0 hc ho.at; rw [hq] at hr9; exact hr9, fun U hU hW => ⟨by rw [hav], by rw [hU], by rw [hU]; exact hP0, va_K.moved hW.alike hK, hD0.weaken (fun _ _ _ _ => trivial)⟩⟩ rfl hn hl.1 (by rw [hav]; simp) (lv_room hst) hd ⟨by omega, by omega⟩
  intro T hT X0
  obtain ⟨v, st₀, t, T', L, h0, X', hL, e1, e2, ⟨⟨v1, M1, hv, hp, hP1, hK1⟩, hz, hk9⟩, stp⟩ := hrun T hT X0
  cases hv
  obtain ⟨r, rfl, hq9⟩ := hp
  rw [h0] at hz hk9
  have hlen : (wl n ad (gl ad cI cZ cB) M).length = (wl n ad (gl ad cI cZ cB) M1).length := by rw [wl_len, wl_len]
  have hP2 : va_P D cls11 (pre ++ (wl n ad (gl ad cI cZ cB) M1 ++ post)) t.heap := by
    intro k2 x hx2
    rcases mid_cases hx2 with hc9 | ⟨j, rfl, hj⟩ | hc9
    · have h9 := mid_swap hlen hx2 (Or.inl hc9)
      exact (hP k2 x h9).kept (hk9 x.1 (hP k2 x h9).lt (fun z => by
        rcases z with ⟨k3, e3, h3⟩ | h3
        · have := hD.1 _ _ x (x.1, e3) h9 (mid_at h3) rfl
          omega
        · have := (hP k2 x h9).lt
          omega))
    · exact hP1 j x hj
    · rw [← hlen] at hc9
      have h9 := mid_swap hlen hx2 (Or.inr hc9)
      exact (hP k2 x h9).kept (hk9 x.1 (hP k2 x h9).lt (fun z => by
        rcases z with ⟨k3, e3, h3⟩ | h3
        · have h4 := hD.1 _ _ x (x.1, e3) h9 (mid_at h3) rfl
          have h5 := (List.getElem?_eq_some_iff.mp h3).1
          omega
        · have := (hP k2 x h9).lt
          omega))
  obtain ⟨t2, a1, b1⟩ := k r M1 hq9 T'.heap (locs ++ L) ls (by rw [e1]; exact hP2) (D_map (by simp only [List.map_append, wl_map]) hD)
    ⟨Nat.le_trans hS.1 (by rw [e1]; exact hz), fun x h1 h2 => by rw [e1, hk9 x (Nat.lt_of_lt_of_le h1 hS.1) (fun z => h2 (hF x z))]; exact hS.2.1 x h1 h2, fun x hx2 => by
      rcases List.mem_append.mp hx2 with h | h
      · exact hS.2.2 x h
      · exact hF _ (hL x h)⟩ hl T' rfl X'
  exact ⟨t2, stp t2 a1, b1⟩
theorem u_pop {X : CU} {cc : ByteArray} {own : String} {nL : Nat} {cI cZ cB : ClassId} {d mc ms : Nat} {ws : va_W} {lv : List (Nat × Value)} {st : List Value} {pc cells slots : Nat} (h : OkU X cc own nL cI cZ cB d mc ms) {va : Value} (hd : decode cc pc = .ok (.pop, 1)) (hc : va.category = 1) (k : VU X ws lv (st) (pc + 1) cells slots) : VU X ws lv (va :: st) pc cells slots := by
  obtain ⟨p, l, e, R, s, m, args, below, meth, c, Q, A, D, nL'⟩ := X
  obtain ⟨hx, hb, hml, hown, hts, hK, rfl, hroom, hcs, hA, hlk⟩ := h
  intro H locs ls hP hD hS hl
  exact lv_pop hx hb hd hc (k H locs ls hP hD hS hl)
