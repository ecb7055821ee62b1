/-! the E layer: a method's model is an Option; where it is some, the method returns just that -/
abbrev ix (i : Int32) : Nat := i.toInt.toNat
def gd {α : Type} (i : Int32) (len : Nat) (e : Option α) : Option α := if 0 ≤ i.toInt ∧ i.toInt < (len : Int) then e else none
def gb {α : Type} (x : Int32) (e : Option α) : Option α := if x = 0 ∨ x = 1 then e else none
def dz {α : Type} (y : Int32) (e : Option α) : Option α := if y.toInt = 0 then none else e
def bnd {A α : Type} (a : A) (f : A → Option α) : Option α := f a
def cb {α : Type} (q : Option (Int32 × Mem)) (k : Int32 → Mem → Option α) : Option α := q.bind (fun z => k z.1 z.2)
def rm (x y : Int32) : Int32 := x - x / y * y
def shl (x y : Int32) : Int32 := x <<< (y &&& 31)
def shr (x y : Int32) : Int32 := x >>> (y &&& 31)
def ushr (x y : Int32) : Int32 := (x.toUInt32 >>> (y.toUInt32 &&& Int32.toUInt32 31)).toInt32
def mx (x y : Int32) : Int32 := if x < y then y else x
def mn (x y : Int32) : Int32 := if y < x then y else x
def ab (x : Int32) : Int32 := if 0 ≤ x then x else 0 - x
def i2b (x : Int32) : Int32 := x.toInt8.toInt32
def lshl (x : Int64) (y : Int32) : Int64 := x <<< (y.toInt64 &&& 63)
def lshr (x : Int64) (y : Int32) : Int64 := x >>> (y.toInt64 &&& 63)
def rl {α : Type} (x : Int32) (f : Nat → Option α) : Option α := if x.toInt = 44 then f 44 else if x.toInt = 52 then f 52 else none
def FU : Nat := 4294967296
theorem fu_lt {n : Nat} (h : n < 4294967296) : n < FU := h
def wlp1 {A0 α : Type} (b : (A0 → Option α) → A0 → Option α) : Nat → A0 → Option α
  | 0 => fun _ => none
  | n + 1 => b (wlp1 b n)
def wlp2 {A0 A1 α : Type} (b : (A0 → A1 → Option α) → A0 → A1 → Option α) : Nat → A0 → A1 → Option α
  | 0 => fun _ _ => none
  | n + 1 => b (wlp2 b n)
def wlp3 {A0 A1 A2 α : Type} (b : (A0 → A1 → A2 → Option α) → A0 → A1 → A2 → Option α) : Nat → A0 → A1 → A2 → Option α
  | 0 => fun _ _ _ => none
  | n + 1 => b (wlp3 b n)
def wlp4 {A0 A1 A2 A3 α : Type} (b : (A0 → A1 → A2 → A3 → Option α) → A0 → A1 → A2 → A3 → Option α) : Nat → A0 → A1 → A2 → A3 → Option α
  | 0 => fun _ _ _ _ => none
  | n + 1 => b (wlp4 b n)
def wlp5 {A0 A1 A2 A3 A4 α : Type} (b : (A0 → A1 → A2 → A3 → A4 → Option α) → A0 → A1 → A2 → A3 → A4 → Option α) : Nat → A0 → A1 → A2 → A3 → A4 → Option α
  | 0 => fun _ _ _ _ _ => none
  | n + 1 => b (wlp5 b n)
def wlp6 {A0 A1 A2 A3 A4 A5 α : Type} (b : (A0 → A1 → A2 → A3 → A4 → A5 → Option α) → A0 → A1 → A2 → A3 → A4 → A5 → Option α) : Nat → A0 → A1 → A2 → A3 → A4 → A5 → Option α
  | 0 => fun _ _ _ _ _ _ => none
  | n + 1 => b (wlp6 b n)
def wlp7 {A0 A1 A2 A3 A4 A5 A6 α : Type} (b : (A0 → A1 → A2 → A3 → A4 → A5 → A6 → Option α) → A0 → A1 → A2 → A3 → A4 → A5 → A6 → Option α) : Nat → A0 → A1 → A2 → A3 → A4 → A5 → A6 → Option α
  | 0 => fun _ _ _ _ _ _ _ => none
  | n + 1 => b (wlp7 b n)
def wlp8 {A0 A1 A2 A3 A4 A5 A6 A7 α : Type} (b : (A0 → A1 → A2 → A3 → A4 → A5 → A6 → A7 → Option α) → A0 → A1 → A2 → A3 → A4 → A5 → A6 → A7 → Option α) : Nat → A0 → A1 → A2 → A3 → A4 → A5 → A6 → A7 → Option α
  | 0 => fun _ _ _ _ _ _ _ _ => none
  | n + 1 => b (wlp8 b n)
def wlp9 {A0 A1 A2 A3 A4 A5 A6 A7 A8 α : Type} (b : (A0 → A1 → A2 → A3 → A4 → A5 → A6 → A7 → A8 → Option α) → A0 → A1 → A2 → A3 → A4 → A5 → A6 → A7 → A8 → Option α) : Nat → A0 → A1 → A2 → A3 → A4 → A5 → A6 → A7 → A8 → Option α
  | 0 => fun _ _ _ _ _ _ _ _ _ => none
  | n + 1 => b (wlp9 b n)
abbrev GL : Type := (Nat → Nat) → ClassId → ClassId → ClassId → Lay
def AXp (y : MethodName) (cc : ByteArray) (maxL : Nat) (ret : Option FieldType) (d n : Nat) (gl : GL) (av : (Nat → Nat) → List Value) (M : Mem) (e : Option Int32) : Prop := ∀ r0, e = some r0 → AM y cc maxL ret d n gl av M (PI (fun r M' => r = r0 ∧ M' = M))
def AXi (y : MethodName) (cc : ByteArray) (maxL : Nat) (ret : Option FieldType) (d n : Nat) (gl : GL) (av : (Nat → Nat) → List Value) (M : Mem) (e : Option (Int32 × Mem)) : Prop := ∀ r0, e = some r0 → AM y cc maxL ret d n gl av M (PI (fun r M' => (r, M') = r0))
def AXv (y : MethodName) (cc : ByteArray) (maxL : Nat) (ret : Option FieldType) (d n : Nat) (gl : GL) (av : (Nat → Nat) → List Value) (M : Mem) (e : Option Mem) : Prop := ∀ r0, e = some r0 → AM y cc maxL ret d n gl av M (PV (fun M' => M' = r0))
theorem gd_of {α : Type} {i : Int32} {len : Nat} {e : Option α} {r : α} (h : gd i len e = some r) : vp_in i len ∧ e = some r := by
  unfold gd at h
  by_cases hc : 0 ≤ i.toInt ∧ i.toInt < (len : Int)
  · rw [if_pos hc] at h
    exact ⟨vp_in_iff.mpr hc, h⟩
  · rw [if_neg hc] at h
    exact nomatch h
theorem gb_of {α : Type} {x : Int32} {e : Option α} {r : α} (h : gb x e = some r) : (x = 0 ∨ x = 1) ∧ e = some r := by
  unfold gb at h
  by_cases hc : x = 0 ∨ x = 1
  · rw [if_pos hc] at h
    exact ⟨hc, h⟩
  · rw [if_neg hc] at h
    exact nomatch h
theorem dz_of {α : Type} {y : Int32} {e : Option α} {r : α} (h : dz y e = some r) : ¬ y = 0 ∧ e = some r := by
  unfold dz at h
  by_cases hc : y.toInt = 0
  · rw [if_pos hc] at h
    exact nomatch h
  · rw [if_neg hc] at h
    exact ⟨fun z => hc (by rw [z]; rfl), h⟩
theorem e_none {α : Type} {X : CT} {M : Mem} {lv : List (Nat × Value)} {st : List Value} {pc : Nat} {r0 : α} (h : (none : Option α) = some r0) : V X M lv st pc := nomatch h
theorem e_if {α : Type} {X : CT} {M : Mem} {lv : List (Nat × Value)} {st : List Value} {pc : Nat} {r0 : α} {p : Prop} {dp : Decidable p} {A B : Option α} (h : (@ite _ p dp A B) = some r0) (kt : p → A = some r0 → V X M lv st pc) (kf : ¬ p → B = some r0 → V X M lv st pc) : V X M lv st pc := by
  by_cases hc : p
  · rw [if_pos hc] at h
    exact kt hc h
  · rw [if_neg hc] at h
    exact kf hc h
theorem e_bnd {α : Type} {X : CT} {M : Mem} {lv : List (Nat × Value)} {st : List Value} {pc : Nat} {r0 : α} {x : Int32} {f : Int32 → Option α} (h : bnd x f = some r0) (k : ∀ y, f y = some r0 → V X M lv (.int y :: st) pc) : V X M lv (.int x :: st) pc := k x h
theorem e_bndl {α : Type} {X : CT} {M : Mem} {lv : List (Nat × Value)} {st : List Value} {pc : Nat} {r0 : α} {x : Int64} {f : Int64 → Option α} (h : bnd x f = some r0) (k : ∀ y, f y = some r0 → V X M lv (.long y :: st) pc) : V X M lv (.long x :: st) pc := k x h
theorem e_bndM {α : Type} {X : CT} {M : Mem} {lv : List (Nat × Value)} {st : List Value} {pc : Nat} {r0 : α} {f : Mem → Option α} (h : bnd M f = some r0) (k : ∀ M1, f M1 = some r0 → V X M1 lv st pc) : V X M lv st pc := k M h
theorem e_rl {α : Type} {X : CT} {M : Mem} {lv : List (Nat × Value)} {st : List Value} {pc : Nat} {ad : Nat → Nat} {r0 : α} {x : Int32} {f : Nat → Option α} (h : rl x f = some r0) (k : ∀ c, isL c → x = nI c → f c = some r0 → V X M lv (.ref (ad c) :: st) pc) : V X M lv (.ref (ad x.toNatClampNeg) :: st) pc := by
  unfold rl at h
  by_cases h1 : x.toInt = 44
  · rw [if_pos h1] at h
    have e : x = nI 44 := Int32.toInt_inj.mp (by rw [h1]; decide)
    have := k 44 (Or.inl rfl) e h
    rw [e]
    exact this
  · rw [if_neg h1] at h
    by_cases h2 : x.toInt = 52
    · rw [if_pos h2] at h
      have e : x = nI 52 := Int32.toInt_inj.mp (by rw [h2]; decide)
      have := k 52 (Or.inr rfl) e h
      rw [e]
      exact this
    · rw [if_neg h2] at h
      exact nomatch h
theorem zadd (x : Int32) : nI 0 + x = x := by rw [nI_0]; exact Int32.zero_add x
theorem r_eq {x y : Int32} : x = y ↔ x.toInt = y.toInt := Int32.toInt_inj.symm
theorem r_lt {x y : Int32} : x < y ↔ x.toInt < y.toInt := Int32.lt_iff_toInt_lt
theorem r_le {x y : Int32} : x ≤ y ↔ x.toInt ≤ y.toInt := Int32.le_iff_toInt_le
theorem q_eq2 {x : Int32} {n : Nat} (h : n < 2 ^ 31) : nI n = x ↔ (n : Int) = x.toInt := by rw [← Int32.toInt_inj, nI_toInt h]
theorem m_eq {x : Int32} {z : Int} {v : Int32} (hv : v.toInt = z) : x = v ↔ x.toInt = z := by rw [← Int32.toInt_inj, hv]
theorem m_lt {x : Int32} {z : Int} {v : Int32} (hv : v.toInt = z) : x < v ↔ x.toInt < z := by rw [Int32.lt_iff_toInt_lt, hv]
theorem m_gt {x : Int32} {z : Int} {v : Int32} (hv : v.toInt = z) : v < x ↔ z < x.toInt := by rw [Int32.lt_iff_toInt_lt, hv]
theorem m_le {x : Int32} {z : Int} {v : Int32} (hv : v.toInt = z) : x ≤ v ↔ x.toInt ≤ z := by rw [Int32.le_iff_toInt_le, hv]
theorem m_ge {x : Int32} {z : Int} {v : Int32} (hv : v.toInt = z) : v ≤ x ↔ z ≤ x.toInt := by rw [Int32.le_iff_toInt_le, hv]
theorem e_if_eq {α : Type} {r0 : α} {X : CT} {cc : ByteArray} {own : String} {nL n : Nat} {ad : Nat → Nat} {g : Lay} {cI cZ cB : ClassId} {d : Nat} {M : Mem} {lv : List (Nat × Value)} {st : List Value} {pc : Nat} (hX : Ok X cc own nL n ad g cI cZ cB d) {x : Int32} {off : Int} {tgt : Nat} {p : Prop} {dp : Decidable p} {A B : Option α} (hd : decode cc pc = .ok (.ifCond .eq off, 3)) (ht : (pc : Int) + off = (tgt : Int)) (hp : (x = 0) ↔ p) (h : (@ite _ p dp A B) = some r0) (kt : A = some r0 → V X M lv st tgt) (kf : B = some r0 → V X M lv st (pc + 3)) : V X M lv (.int x :: st) pc := s_if_eq hX hd ht (fun c => kt (by rw [if_pos (hp.mp c)] at h; exact h)) (fun c => kf (by rw [if_neg (mt hp.mpr c)] at h; exact h))
theorem e_icmp_eq {α : Type} {r0 : α} {X : CT} {cc : ByteArray} {own : String} {nL n : Nat} {ad : Nat → Nat} {g : Lay} {cI cZ cB : ClassId} {d : Nat} {M : Mem} {lv : List (Nat × Value)} {st : List Value} {pc : Nat} (hX : Ok X cc own nL n ad g cI cZ cB d) {x y : Int32} {off : Int} {tgt : Nat} {p : Prop} {dp : Decidable p} {A B : Option α} (hd : decode cc pc = .ok (.if_icmp .eq off, 3)) (ht : (pc : Int) + off = (tgt : Int)) (hp : (x = y) ↔ p) (h : (@ite _ p dp A B) = some r0) (kt : A = some r0 → V X M lv st tgt) (kf : B = some r0 → V X M lv st (pc + 3)) : V X M lv (.int y :: .int x :: st) pc := s_icmp_eq hX hd ht (fun c => kt (by rw [if_pos (hp.mp c)] at h; exact h)) (fun c => kf (by rw [if_neg (mt hp.mpr c)] at h; exact h))
theorem e_if_ne {α : Type} {r0 : α} {X : CT} {cc : ByteArray} {own : String} {nL n : Nat} {ad : Nat → Nat} {g : Lay} {cI cZ cB : ClassId} {d : Nat} {M : Mem} {lv : List (Nat × Value)} {st : List Value} {pc : Nat} (hX : Ok X cc own nL n ad g cI cZ cB d) {x : Int32} {off : Int} {tgt : Nat} {p : Prop} {dp : Decidable p} {A B : Option α} (hd : decode cc pc = .ok (.ifCond .ne off, 3)) (ht : (pc : Int) + off = (tgt : Int)) (hp : (x = 0) ↔ p) (h : (@ite _ p dp A B) = some r0) (kt : B = some r0 → V X M lv st tgt) (kf : A = some r0 → V X M lv st (pc + 3)) : V X M lv (.int x :: st) pc := s_if_ne hX hd ht (fun c => kt (by rw [if_neg (mt hp.mpr c)] at h; exact h)) (fun c => kf (by rw [if_pos (hp.mp c)] at h; exact h))
theorem e_icmp_ne {α : Type} {r0 : α} {X : CT} {cc : ByteArray} {own : String} {nL n : Nat} {ad : Nat → Nat} {g : Lay} {cI cZ cB : ClassId} {d : Nat} {M : Mem} {lv : List (Nat × Value)} {st : List Value} {pc : Nat} (hX : Ok X cc own nL n ad g cI cZ cB d) {x y : Int32} {off : Int} {tgt : Nat} {p : Prop} {dp : Decidable p} {A B : Option α} (hd : decode cc pc = .ok (.if_icmp .ne off, 3)) (ht : (pc : Int) + off = (tgt : Int)) (hp : (x = y) ↔ p) (h : (@ite _ p dp A B) = some r0) (kt : B = some r0 → V X M lv st tgt) (kf : A = some r0 → V X M lv st (pc + 3)) : V X M lv (.int y :: .int x :: st) pc := s_icmp_ne hX hd ht (fun c => kt (by rw [if_neg (mt hp.mpr c)] at h; exact h)) (fun c => kf (by rw [if_pos (hp.mp c)] at h; exact h))
theorem e_if_lt {α : Type} {r0 : α} {X : CT} {cc : ByteArray} {own : String} {nL n : Nat} {ad : Nat → Nat} {g : Lay} {cI cZ cB : ClassId} {d : Nat} {M : Mem} {lv : List (Nat × Value)} {st : List Value} {pc : Nat} (hX : Ok X cc own nL n ad g cI cZ cB d) {x : Int32} {off : Int} {tgt : Nat} {p : Prop} {dp : Decidable p} {A B : Option α} (hd : decode cc pc = .ok (.ifCond .lt off, 3)) (ht : (pc : Int) + off = (tgt : Int)) (hp : (x < 0) ↔ p) (h : (@ite _ p dp A B) = some r0) (kt : A = some r0 → V X M lv st tgt) (kf : B = some r0 → V X M lv st (pc + 3)) : V X M lv (.int x :: st) pc := s_if_lt hX hd ht (fun c => kt (by rw [if_pos (hp.mp c)] at h; exact h)) (fun c => kf (by rw [if_neg (mt hp.mpr c)] at h; exact h))
theorem e_icmp_lt {α : Type} {r0 : α} {X : CT} {cc : ByteArray} {own : String} {nL n : Nat} {ad : Nat → Nat} {g : Lay} {cI cZ cB : ClassId} {d : Nat} {M : Mem} {lv : List (Nat × Value)} {st : List Value} {pc : Nat} (hX : Ok X cc own nL n ad g cI cZ cB d) {x y : Int32} {off : Int} {tgt : Nat} {p : Prop} {dp : Decidable p} {A B : Option α} (hd : decode cc pc = .ok (.if_icmp .lt off, 3)) (ht : (pc : Int) + off = (tgt : Int)) (hp : (x < y) ↔ p) (h : (@ite _ p dp A B) = some r0) (kt : A = some r0 → V X M lv st tgt) (kf : B = some r0 → V X M lv st (pc + 3)) : V X M lv (.int y :: .int x :: st) pc := s_icmp_lt hX hd ht (fun c => kt (by rw [if_pos (hp.mp c)] at h; exact h)) (fun c => kf (by rw [if_neg (mt hp.mpr c)] at h; exact h))
theorem e_if_ge {α : Type} {r0 : α} {X : CT} {cc : ByteArray} {own : String} {nL n : Nat} {ad : Nat → Nat} {g : Lay} {cI cZ cB : ClassId} {d : Nat} {M : Mem} {lv : List (Nat × Value)} {st : List Value} {pc : Nat} (hX : Ok X cc own nL n ad g cI cZ cB d) {x : Int32} {off : Int} {tgt : Nat} {p : Prop} {dp : Decidable p} {A B : Option α} (hd : decode cc pc = .ok (.ifCond .ge off, 3)) (ht : (pc : Int) + off = (tgt : Int)) (hp : (0 ≤ x) ↔ p) (h : (@ite _ p dp A B) = some r0) (kt : A = some r0 → V X M lv st tgt) (kf : B = some r0 → V X M lv st (pc + 3)) : V X M lv (.int x :: st) pc := s_if_ge hX hd ht (fun c => kt (by rw [if_pos (hp.mp c)] at h; exact h)) (fun c => kf (by rw [if_neg (mt hp.mpr c)] at h; exact h))
theorem e_icmp_ge {α : Type} {r0 : α} {X : CT} {cc : ByteArray} {own : String} {nL n : Nat} {ad : Nat → Nat} {g : Lay} {cI cZ cB : ClassId} {d : Nat} {M : Mem} {lv : List (Nat × Value)} {st : List Value} {pc : Nat} (hX : Ok X cc own nL n ad g cI cZ cB d) {x y : Int32} {off : Int} {tgt : Nat} {p : Prop} {dp : Decidable p} {A B : Option α} (hd : decode cc pc = .ok (.if_icmp .ge off, 3)) (ht : (pc : Int) + off = (tgt : Int)) (hp : (y ≤ x) ↔ p) (h : (@ite _ p dp A B) = some r0) (kt : A = some r0 → V X M lv st tgt) (kf : B = some r0 → V X M lv st (pc + 3)) : V X M lv (.int y :: .int x :: st) pc := s_icmp_ge hX hd ht (fun c => kt (by rw [if_pos (hp.mp c)] at h; exact h)) (fun c => kf (by rw [if_neg (mt hp.mpr c)] at h; exact h))
theorem e_if_gt {α : Type} {r0 : α} {X : CT} {cc : ByteArray} {own : String} {nL n : Nat} {ad : Nat → Nat} {g : Lay} {cI cZ cB : ClassId} {d : Nat} {M : Mem} {lv : List (Nat × Value)} {st : List Value} {pc : Nat} (hX : Ok X cc own nL n ad g cI cZ cB d) {x : Int32} {off : Int} {tgt : Nat} {p : Prop} {dp : Decidable p} {A B : Option α} (hd : decode cc pc = .ok (.ifCond .gt off, 3)) (ht : (pc : Int) + off = (tgt : Int)) (hp : (0 < x) ↔ p) (h : (@ite _ p dp A B) = some r0) (kt : A = some r0 → V X M lv st tgt) (kf : B = some r0 → V X M lv st (pc + 3)) : V X M lv (.int x :: st) pc := s_if_gt hX hd ht (fun c => kt (by rw [if_pos (hp.mp c)] at h; exact h)) (fun c => kf (by rw [if_neg (mt hp.mpr c)] at h; exact h))
theorem e_icmp_gt {α : Type} {r0 : α} {X : CT} {cc : ByteArray} {own : String} {nL n : Nat} {ad : Nat → Nat} {g : Lay} {cI cZ cB : ClassId} {d : Nat} {M : Mem} {lv : List (Nat × Value)} {st : List Value} {pc : Nat} (hX : Ok X cc own nL n ad g cI cZ cB d) {x y : Int32} {off : Int} {tgt : Nat} {p : Prop} {dp : Decidable p} {A B : Option α} (hd : decode cc pc = .ok (.if_icmp .gt off, 3)) (ht : (pc : Int) + off = (tgt : Int)) (hp : (y < x) ↔ p) (h : (@ite _ p dp A B) = some r0) (kt : A = some r0 → V X M lv st tgt) (kf : B = some r0 → V X M lv st (pc + 3)) : V X M lv (.int y :: .int x :: st) pc := s_icmp_gt hX hd ht (fun c => kt (by rw [if_pos (hp.mp c)] at h; exact h)) (fun c => kf (by rw [if_neg (mt hp.mpr c)] at h; exact h))
theorem e_if_le {α : Type} {r0 : α} {X : CT} {cc : ByteArray} {own : String} {nL n : Nat} {ad : Nat → Nat} {g : Lay} {cI cZ cB : ClassId} {d : Nat} {M : Mem} {lv : List (Nat × Value)} {st : List Value} {pc : Nat} (hX : Ok X cc own nL n ad g cI cZ cB d) {x : Int32} {off : Int} {tgt : Nat} {p : Prop} {dp : Decidable p} {A B : Option α} (hd : decode cc pc = .ok (.ifCond .le off, 3)) (ht : (pc : Int) + off = (tgt : Int)) (hp : (x ≤ 0) ↔ p) (h : (@ite _ p dp A B) = some r0) (kt : A = some r0 → V X M lv st tgt) (kf : B = some r0 → V X M lv st (pc + 3)) : V X M lv (.int x :: st) pc := s_if_le hX hd ht (fun c => kt (by rw [if_pos (hp.mp c)] at h; exact h)) (fun c => kf (by rw [if_neg (mt hp.mpr c)] at h; exact h))
theorem e_icmp_le {α : Type} {r0 : α} {X : CT} {cc : ByteArray} {own : String} {nL n : Nat} {ad : Nat → Nat} {g : Lay} {cI cZ cB : ClassId} {d : Nat} {M : Mem} {lv : List (Nat × Value)} {st : List Value} {pc : Nat} (hX : Ok X cc own nL n ad g cI cZ cB d) {x y : Int32} {off : Int} {tgt : Nat} {p : Prop} {dp : Decidable p} {A B : Option α} (hd : decode cc pc = .ok (.if_icmp .le off, 3)) (ht : (pc : Int) + off = (tgt : Int)) (hp : (x ≤ y) ↔ p) (h : (@ite _ p dp A B) = some r0) (kt : A = some r0 → V X M lv st tgt) (kf : B = some r0 → V X M lv st (pc + 3)) : V X M lv (.int y :: .int x :: st) pc := s_icmp_le hX hd ht (fun c => kt (by rw [if_pos (hp.mp c)] at h; exact h)) (fun c => kf (by rw [if_neg (mt hp.mpr c)] at h; exact h))
theorem e_iald {α : Type} {r0 : α} {X : CT} {cc : ByteArray} {own : String} {nL n : Nat} {ad : Nat → Nat} {g : Lay} {cI cZ cB : ClassId} {d : Nat} {M : Mem} {lv : List (Nat × Value)} {st : List Value} {pc : Nat} (hX : Ok X cc own nL n ad g cI cZ cB d) {k len : Nat} {i : Int32} {e : Option α} (ha : IA g n k cI len) (hd : decode cc pc = .ok (.iaload, 1)) (h : gd i len e = some r0) (kk : e = some r0 → V X M lv (.int (M k (ix i)) :: st) (pc + 1)) : V X M lv (.int i :: .ref (ad k) :: st) pc := s_iald hX ha (gd_of h).1 hd (kk (gd_of h).2)
theorem e_zald {α : Type} {r0 : α} {X : CT} {cc : ByteArray} {own : String} {nL n : Nat} {ad : Nat → Nat} {g : Lay} {cI cZ cB : ClassId} {d : Nat} {M : Mem} {lv : List (Nat × Value)} {st : List Value} {pc : Nat} (hX : Ok X cc own nL n ad g cI cZ cB d) {k len : Nat} {i : Int32} {e : Option α} (ha : IA g n k cZ len) (hd : decode cc pc = .ok (.baload, 1)) (h : gd i len e = some r0) (kk : e = some r0 → V X M lv (.int (M k (ix i)) :: st) (pc + 1)) : V X M lv (.int i :: .ref (ad k) :: st) pc := s_zald hX ha (gd_of h).1 hd (kk (gd_of h).2)
theorem e_bald {α : Type} {r0 : α} {X : CT} {cc : ByteArray} {own : String} {nL n : Nat} {ad : Nat → Nat} {g : Lay} {cI cZ cB : ClassId} {d : Nat} {M : Mem} {lv : List (Nat × Value)} {st : List Value} {pc : Nat} (hX : Ok X cc own nL n ad g cI cZ cB d) {k len : Nat} {i : Int32} {e : Option α} (ha : IA g n k cB len) (hd : decode cc pc = .ok (.baload, 1)) (h : gd i len e = some r0) (kk : e = some r0 → V X M lv (.int (M k (ix i)) :: st) (pc + 1)) : V X M lv (.int i :: .ref (ad k) :: st) pc := s_bald hX ha (gd_of h).1 hd (kk (gd_of h).2)
theorem e_iast {α : Type} {r0 : α} {X : CT} {cc : ByteArray} {own : String} {nL n : Nat} {ad : Nat → Nat} {g : Lay} {cI cZ cB : ClassId} {d : Nat} {M : Mem} {lv : List (Nat × Value)} {st : List Value} {pc : Nat} (hX : Ok X cc own nL n ad g cI cZ cB d) {k len : Nat} {i x : Int32} {e : Option α} (ha : IA g n k cI len) (hd : decode cc pc = .ok (.iastore, 1)) (h : gd i len e = some r0) (kk : e = some r0 → V X (mset M k (ix i) x) lv st (pc + 1)) : V X M lv (.int x :: .int i :: .ref (ad k) :: st) pc := s_iast hX ha (gd_of h).1 hd (kk (gd_of h).2)
theorem e_zast {α : Type} {r0 : α} {X : CT} {cc : ByteArray} {own : String} {nL n : Nat} {ad : Nat → Nat} {g : Lay} {cI cZ cB : ClassId} {d : Nat} {M : Mem} {lv : List (Nat × Value)} {st : List Value} {pc : Nat} (hX : Ok X cc own nL n ad g cI cZ cB d) {k len : Nat} {i x : Int32} {e : Option α} (ha : IA g n k cZ len) (hd : decode cc pc = .ok (.bastore, 1)) (h : gd i len e = some r0) (kk : e = some r0 → V X (mset M k (ix i) (vp_nar .boolean x)) lv st (pc + 1)) : V X M lv (.int x :: .int i :: .ref (ad k) :: st) pc := s_zast hX ha (gd_of h).1 hd (kk (gd_of h).2)
theorem e_bast {α : Type} {r0 : α} {X : CT} {cc : ByteArray} {own : String} {nL n : Nat} {ad : Nat → Nat} {g : Lay} {cI cZ cB : ClassId} {d : Nat} {M : Mem} {lv : List (Nat × Value)} {st : List Value} {pc : Nat} (hX : Ok X cc own nL n ad g cI cZ cB d) {k len : Nat} {i x : Int32} {e : Option α} (ha : IA g n k cB len) (hd : decode cc pc = .ok (.bastore, 1)) (h : gd i len e = some r0) (kk : e = some r0 → V X (mset M k (ix i) (vp_nar .byte x)) lv st (pc + 1)) : V X M lv (.int x :: .int i :: .ref (ad k) :: st) pc := s_bast hX ha (gd_of h).1 hd (kk (gd_of h).2)
theorem e_irem {α : Type} {r0 : α} {X : CT} {cc : ByteArray} {own : String} {nL n : Nat} {ad : Nat → Nat} {g : Lay} {cI cZ cB : ClassId} {d : Nat} {M : Mem} {lv : List (Nat × Value)} {st : List Value} {pc : Nat} (hX : Ok X cc own nL n ad g cI cZ cB d) {x y : Int32} {e : Option α} (hd : decode cc pc = .ok (.irem, 1)) (h : dz y e = some r0) (kk : e = some r0 → V X M lv (.int (rm x y) :: st) (pc + 1)) : V X M lv (.int y :: .int x :: st) pc := s_irem hX hd (dz_of h).1 (kk (dz_of h).2)
theorem e_idiv {α : Type} {r0 : α} {X : CT} {cc : ByteArray} {own : String} {nL n : Nat} {ad : Nat → Nat} {g : Lay} {cI cZ cB : ClassId} {d : Nat} {M : Mem} {lv : List (Nat × Value)} {st : List Value} {pc : Nat} (hX : Ok X cc own nL n ad g cI cZ cB d) {x y : Int32} {e : Option α} (hd : decode cc pc = .ok (.idiv, 1)) (h : dz y e = some r0) (kk : e = some r0 → V X M lv (.int (x / y) :: st) (pc + 1)) : V X M lv (.int y :: .int x :: st) pc := s_idiv hX hd (dz_of h).1 (kk (dz_of h).2)
theorem s_iremL {X : CT} {cc : ByteArray} {own : String} {nL n : Nat} {ad : Nat → Nat} {g : Lay} {cI cZ cB : ClassId} {d : Nat} {M : Mem} {lv : List (Nat × Value)} {st : List Value} {pc : Nat} (hX : Ok X cc own nL n ad g cI cZ cB d) {x y : Int32} (hd : decode cc pc = .ok (.irem, 1)) (hy : ¬ y = 0) (kk : V X M lv (.int (rm x y) :: st) (pc + 1)) : V X M lv (.int y :: .int x :: st) pc := s_irem hX hd hy kk
theorem e_ishl {X : CT} {cc : ByteArray} {own : String} {nL n : Nat} {ad : Nat → Nat} {g : Lay} {cI cZ cB : ClassId} {d : Nat} {M : Mem} {lv : List (Nat × Value)} {st : List Value} {pc : Nat} (hX : Ok X cc own nL n ad g cI cZ cB d) {x y : Int32} (hd : decode cc pc = .ok (.ishl, 1)) (kk : V X M lv (.int (shl x y) :: st) (pc + 1)) : V X M lv (.int y :: .int x :: st) pc := s_ishl hX hd kk
theorem e_ishr {X : CT} {cc : ByteArray} {own : String} {nL n : Nat} {ad : Nat → Nat} {g : Lay} {cI cZ cB : ClassId} {d : Nat} {M : Mem} {lv : List (Nat × Value)} {st : List Value} {pc : Nat} (hX : Ok X cc own nL n ad g cI cZ cB d) {x y : Int32} (hd : decode cc pc = .ok (.ishr, 1)) (kk : V X M lv (.int (shr x y) :: st) (pc + 1)) : V X M lv (.int y :: .int x :: st) pc := s_ishr hX hd kk
theorem e_iushr {X : CT} {cc : ByteArray} {own : String} {nL n : Nat} {ad : Nat → Nat} {g : Lay} {cI cZ cB : ClassId} {d : Nat} {M : Mem} {lv : List (Nat × Value)} {st : List Value} {pc : Nat} (hX : Ok X cc own nL n ad g cI cZ cB d) {x y : Int32} (hd : decode cc pc = .ok (.iushr, 1)) (kk : V X M lv (.int (ushr x y) :: st) (pc + 1)) : V X M lv (.int y :: .int x :: st) pc := by
  obtain ⟨p, l, e, R, s, m, args, below, meth, c, Q, A, D, n', ad', g', nL'⟩ := X
  obtain ⟨hx, hb, hml, hown, hts, hK, hD, rfl, rfl, rfl, rfl, hroom, hA, hlk⟩ := hX
  intro H locs ls hP hS hl
  exact lv_iushr hx hb hd rfl (kk H locs ls hP hS hl)
theorem e_putz {α : Type} {r0 : α} {X : CT} {cc : ByteArray} {own : String} {nL n : Nat} {ad : Nat → Nat} {g : Lay} {cI cZ cB : ClassId} {d : Nat} {M : Mem} {lv : List (Nat × Value)} {st : List Value} {pc : Nat} (hX : Ok X cc own nL n ad g cI cZ cB d) {idx ci j k : Nat} {x : Int32} {fs : (Nat → Int32) → List Value} {e : Option α} (hf : FL own idx ci j) (ho : OB g n k ci fs) (hs : (fs (M k)).set j (.int x) = fs (upd (M k) j x)) (hl0 : j < (fs (M k)).length) (hty : ∀ q : vw_C, cls11[ci]? = some q → (q.2.1 j).2.2.2 = false ∧ parseFieldDescriptor (q.2.1 j).2.2.1 = some .boolean) (hd : decode cc pc = .ok (.putfield idx, 3)) (h : gb x e = some r0) (kk : e = some r0 → V X (mset M k j x) lv st (pc + 3)) : V X M lv (.int x :: .ref (ad k) :: st) pc := s_puti (ty := .boolean) hX hf ho hs hl0 hty (by rcases (gb_of h).1 with e | e <;> rw [e] <;> rfl) (by rcases (gb_of h).1 with e | e <;> rw [e] <;> rfl) hd (kk (gb_of h).2)
theorem e_iretp {X : CT} {cc : ByteArray} {own : String} {nL n : Nat} {ad : Nat → Nat} {g : Lay} {cI cZ cB : ClassId} {d : Nat} {M : Mem} {lv : List (Nat × Value)} {pc : Nat} (hX : Ok X cc own nL n ad g cI cZ cB d) {v r0 : Int32} (hR : Ret X (some .int) cI cZ cB (PI (fun r M' => r = r0 ∧ M' = M))) (hd : decode cc pc = .ok (.ireturn, 1)) (h : some v = some r0) : V X M lv [.int v] pc := s_iret hX hR hd ⟨Option.some.inj h, rfl⟩
theorem e_zretp {X : CT} {cc : ByteArray} {own : String} {nL n : Nat} {ad : Nat → Nat} {g : Lay} {cI cZ cB : ClassId} {d : Nat} {M : Mem} {lv : List (Nat × Value)} {pc : Nat} (hX : Ok X cc own nL n ad g cI cZ cB d) {v r0 : Int32} (hR : Ret X (some .boolean) cI cZ cB (PI (fun r M' => r = r0 ∧ M' = M))) (hd : decode cc pc = .ok (.ireturn, 1)) (h : gb v (some v) = some r0) : V X M lv [.int v] pc := s_zret hX hR hd (gb_of h).1 ⟨Option.some.inj (gb_of h).2, rfl⟩
theorem e_zretpL {X : CT} {cc : ByteArray} {own : String} {nL n : Nat} {ad : Nat → Nat} {g : Lay} {cI cZ cB : ClassId} {d : Nat} {M : Mem} {lv : List (Nat × Value)} {pc : Nat} (hX : Ok X cc own nL n ad g cI cZ cB d) {v r0 : Int32} (hR : Ret X (some .boolean) cI cZ cB (PI (fun r M' => r = r0 ∧ M' = M))) (hd : decode cc pc = .ok (.ireturn, 1)) (hz : v = 0 ∨ v = 1) (h : some v = some r0) : V X M lv [.int v] pc := s_zret hX hR hd hz ⟨Option.some.inj h, rfl⟩
theorem e_ireti {X : CT} {cc : ByteArray} {own : String} {nL n : Nat} {ad : Nat → Nat} {g : Lay} {cI cZ cB : ClassId} {d : Nat} {M : Mem} {lv : List (Nat × Value)} {pc : Nat} (hX : Ok X cc own nL n ad g cI cZ cB d) {v : Int32} {r0 : Int32 × Mem} (hR : Ret X (some .int) cI cZ cB (PI (fun r M' => (r, M') = r0))) (hd : decode cc pc = .ok (.ireturn, 1)) (h : some (v, M) = some r0) : V X M lv [.int v] pc := s_iret hX hR hd (Option.some.inj h)
theorem e_zreti {X : CT} {cc : ByteArray} {own : String} {nL n : Nat} {ad : Nat → Nat} {g : Lay} {cI cZ cB : ClassId} {d : Nat} {M : Mem} {lv : List (Nat × Value)} {pc : Nat} (hX : Ok X cc own nL n ad g cI cZ cB d) {v : Int32} {r0 : Int32 × Mem} (hR : Ret X (some .boolean) cI cZ cB (PI (fun r M' => (r, M') = r0))) (hd : decode cc pc = .ok (.ireturn, 1)) (h : gb v (some (v, M)) = some r0) : V X M lv [.int v] pc := s_zret hX hR hd (gb_of h).1 (Option.some.inj (gb_of h).2)
theorem e_zretiL {X : CT} {cc : ByteArray} {own : String} {nL n : Nat} {ad : Nat → Nat} {g : Lay} {cI cZ cB : ClassId} {d : Nat} {M : Mem} {lv : List (Nat × Value)} {pc : Nat} (hX : Ok X cc own nL n ad g cI cZ cB d) {v : Int32} {r0 : Int32 × Mem} (hR : Ret X (some .boolean) cI cZ cB (PI (fun r M' => (r, M') = r0))) (hd : decode cc pc = .ok (.ireturn, 1)) (hz : v = 0 ∨ v = 1) (h : some (v, M) = some r0) : V X M lv [.int v] pc := s_zret hX hR hd hz (Option.some.inj h)
theorem e_vret {X : CT} {cc : ByteArray} {own : String} {nL n : Nat} {ad : Nat → Nat} {g : Lay} {cI cZ cB : ClassId} {d : Nat} {M : Mem} {lv : List (Nat × Value)} {pc : Nat} (hX : Ok X cc own nL n ad g cI cZ cB d) {r0 : Mem} (hR : Ret X none cI cZ cB (PV (fun M' => M' = r0))) (hd : decode cc pc = .ok (.return_, 1)) (h : some M = some r0) : V X M lv [] pc := s_vret hX hR hd (Option.some.inj h)
theorem e_mmax {X : CT} {cc : ByteArray} {own : String} {nL n : Nat} {ad : Nat → Nat} {g : Lay} {cI cZ cB : ClassId} {d : Nat} {M : Mem} {lv : List (Nat × Value)} {st : List Value} {pc : Nat} (hX : Ok X cc own nL n ad g cI cZ cB d) {idx : Nat} {x y : Int32} (hw : Cond.methodLink own idx Lib.Math.max.name ∈ UL) (hw2 : Cond.static Lib.Math.max.name ∈ UL ∧ Cond.initialized "java/lang/Math" ∈ UL ∧ Cond.code Lib.Math.max.name Lib.Math.max.code 2 (some .int) ∈ UL) (hd1 : 1 ≤ d) (hst : (st.map fun v => v.category).sum ≤ 8) (hd : decode cc pc = .ok (.invokestatic idx, 3)) (kk : V X M lv (.int (mx x y) :: st) (pc + 3)) : V X M lv (.int y :: .int x :: st) pc := s_mmax hX hw hw2 hd1 hst hd kk
theorem e_mmin {X : CT} {cc : ByteArray} {own : String} {nL n : Nat} {ad : Nat → Nat} {g : Lay} {cI cZ cB : ClassId} {d : Nat} {M : Mem} {lv : List (Nat × Value)} {st : List Value} {pc : Nat} (hX : Ok X cc own nL n ad g cI cZ cB d) {idx : Nat} {x y : Int32} (hw : Cond.methodLink own idx Lib.Math.min.name ∈ UL) (hw2 : Cond.static Lib.Math.min.name ∈ UL ∧ Cond.initialized "java/lang/Math" ∈ UL ∧ Cond.code Lib.Math.min.name Lib.Math.min.code 2 (some .int) ∈ UL) (hd1 : 1 ≤ d) (hst : (st.map fun v => v.category).sum ≤ 8) (hd : decode cc pc = .ok (.invokestatic idx, 3)) (kk : V X M lv (.int (mn x y) :: st) (pc + 3)) : V X M lv (.int y :: .int x :: st) pc := s_mmin hX hw hw2 hd1 hst hd kk
theorem e_mabs {X : CT} {cc : ByteArray} {own : String} {nL n : Nat} {ad : Nat → Nat} {g : Lay} {cI cZ cB : ClassId} {d : Nat} {M : Mem} {lv : List (Nat × Value)} {st : List Value} {pc : Nat} (hX : Ok X cc own nL n ad g cI cZ cB d) {idx : Nat} {x : Int32} (hw : Cond.methodLink own idx Lib.Math.abs.name ∈ UL) (hw2 : Cond.static Lib.Math.abs.name ∈ UL ∧ Cond.initialized "java/lang/Math" ∈ UL ∧ Cond.code Lib.Math.abs.name Lib.Math.abs.code 1 (some .int) ∈ UL) (hd1 : 1 ≤ d) (hst : (st.map fun v => v.category).sum ≤ 8) (hd : decode cc pc = .ok (.invokestatic idx, 3)) (kk : V X M lv (.int (ab x) :: st) (pc + 3)) : V X M lv (.int x :: st) pc := s_mabs hX hw hw2 hd1 hst hd kk
set_option maxHeartbeats 1000000 in
theorem e_callVp {α : Type} {r0 : α} {q : Option Int32} {X : CT} {cc : ByteArray} {own : String} {nL n : Nat} {ad : Nat → Nat} {cI cZ cB : ClassId} {d : Nat} {M : Mem} {lv : List (Nat × Value)} {st : List Value} {pc : Nat} {gl : (Nat → Nat) → ClassId → ClassId → ClassId → Lay}  {y : MethodName} {ccy : ByteArray} {maxL : Nat} {ret : Option FieldType} {dy idx nA : Nat} {av : (Nat → Nat) → List Value}  {stk : List Value} (hX : Ok X cc own nL n ad (gl ad cI cZ cB) cI cZ cB d) (hM : AXp y ccy maxL ret dy n gl av M q) (hmw : MV y ccy maxL ret nA) (hml0 : Cond.methodLink own idx y ∈ UL) (hdy : dy < d) (hmx : maxL ≤ 40) {k ci : Nat} {qc : vw_C} {fs : (Nat → Int32) → List Value} {As : List Value} (ho : OB (gl ad cI cZ cB) n k ci fs) (hc : cls11[ci]? = some qc) (hq : qc.1 = y.cls) (hav : av ad = .ref (ad k) :: As) (hn : As.length = nA) (hs : stk = (av ad).reverse ++ st) (hst : (st.map fun v => v.category).sum ≤ 8) (hd : decode cc pc = .ok (.invokevirtual idx, 3))  {k9 : Int32 → Option α} (h : q.bind k9 = some r0) (kk : ∀ r : Int32, k9 r = some r0 → V X M lv (.int r :: st) (pc + 3)) : V X M lv stk pc := by
  cases q with
  | none => exact nomatch h
  | some q0 => exact s_callVi hX (hM _ rfl) hmw hml0 hdy hmx ho hc hq hav hn hs hst hd (fun r M9 e => by obtain ⟨rfl, rfl⟩ := e; exact kk _ h)
set_option maxHeartbeats 1000000 in
theorem e_callVi {α : Type} {r0 : α} {q : Option (Int32 × Mem)} {X : CT} {cc : ByteArray} {own : String} {nL n : Nat} {ad : Nat → Nat} {cI cZ cB : ClassId} {d : Nat} {M : Mem} {lv : List (Nat × Value)} {st : List Value} {pc : Nat} {gl : (Nat → Nat) → ClassId → ClassId → ClassId → Lay}  {y : MethodName} {ccy : ByteArray} {maxL : Nat} {ret : Option FieldType} {dy idx nA : Nat} {av : (Nat → Nat) → List Value}  {stk : List Value} (hX : Ok X cc own nL n ad (gl ad cI cZ cB) cI cZ cB d) (hM : AXi y ccy maxL ret dy n gl av M q) (hmw : MV y ccy maxL ret nA) (hml0 : Cond.methodLink own idx y ∈ UL) (hdy : dy < d) (hmx : maxL ≤ 40) {k ci : Nat} {qc : vw_C} {fs : (Nat → Int32) → List Value} {As : List Value} (ho : OB (gl ad cI cZ cB) n k ci fs) (hc : cls11[ci]? = some qc) (hq : qc.1 = y.cls) (hav : av ad = .ref (ad k) :: As) (hn : As.length = nA) (hs : stk = (av ad).reverse ++ st) (hst : (st.map fun v => v.category).sum ≤ 8) (hd : decode cc pc = .ok (.invokevirtual idx, 3))  {k9 : Int32 → Mem → Option α} (h : cb q k9 = some r0) (kk : ∀ (r : Int32) (M' : Mem), k9 r M' = some r0 → V X M' lv (.int r :: st) (pc + 3)) : V X M lv stk pc := by
  cases q with
  | none => exact nomatch h
  | some q0 => exact s_callVi hX (hM _ rfl) hmw hml0 hdy hmx ho hc hq hav hn hs hst hd (fun r M9 e => by cases e; exact kk _ _ h)
set_option maxHeartbeats 1000000 in
theorem e_callVv {α : Type} {r0 : α} {q : Option Mem} {X : CT} {cc : ByteArray} {own : String} {nL n : Nat} {ad : Nat → Nat} {cI cZ cB : ClassId} {d : Nat} {M : Mem} {lv : List (Nat × Value)} {st : List Value} {pc : Nat} {gl : (Nat → Nat) → ClassId → ClassId → ClassId → Lay}  {y : MethodName} {ccy : ByteArray} {maxL : Nat} {ret : Option FieldType} {dy idx nA : Nat} {av : (Nat → Nat) → List Value}  {stk : List Value} (hX : Ok X cc own nL n ad (gl ad cI cZ cB) cI cZ cB d) (hM : AXv y ccy maxL ret dy n gl av M q) (hmw : MV y ccy maxL ret nA) (hml0 : Cond.methodLink own idx y ∈ UL) (hdy : dy < d) (hmx : maxL ≤ 40) {k ci : Nat} {qc : vw_C} {fs : (Nat → Int32) → List Value} {As : List Value} (ho : OB (gl ad cI cZ cB) n k ci fs) (hc : cls11[ci]? = some qc) (hq : qc.1 = y.cls) (hav : av ad = .ref (ad k) :: As) (hn : As.length = nA) (hs : stk = (av ad).reverse ++ st) (hst : (st.map fun v => v.category).sum ≤ 8) (hd : decode cc pc = .ok (.invokevirtual idx, 3))  {k9 : Mem → Option α} (h : q.bind k9 = some r0) (kk : ∀ (M' : Mem), k9 M' = some r0 → V X M' lv st (pc + 3)) : V X M lv stk pc := by
  cases q with
  | none => exact nomatch h
  | some q0 => exact s_callVv hX (hM _ rfl) hmw hml0 hdy hmx ho hc hq hav hn hs hst hd (fun M9 e => by cases e; exact kk _ h)
set_option maxHeartbeats 1000000 in
theorem e_callSp {α : Type} {r0 : α} {q : Option Int32} {X : CT} {cc : ByteArray} {own : String} {nL n : Nat} {ad : Nat → Nat} {cI cZ cB : ClassId} {d : Nat} {M : Mem} {lv : List (Nat × Value)} {st : List Value} {pc : Nat} {gl : (Nat → Nat) → ClassId → ClassId → ClassId → Lay}  {y : MethodName} {ccy : ByteArray} {maxL : Nat} {ret : Option FieldType} {dy idx nA : Nat} {av : (Nat → Nat) → List Value}  {stk : List Value} (hX : Ok X cc own nL n ad (gl ad cI cZ cB) cI cZ cB d) (hM : AXp y ccy maxL ret dy n gl av M q) (hmw : MS y ccy maxL ret nA) (hml0 : Cond.methodLink own idx y ∈ UL) (hdy : dy < d) (hmx : maxL ≤ 40) (hn : (av ad).length = nA) (hs : stk = (av ad).reverse ++ st) (hst : (st.map fun v => v.category).sum ≤ 8) (hd : decode cc pc = .ok (.invokestatic idx, 3))  {k9 : Int32 → Option α} (h : q.bind k9 = some r0) (kk : ∀ r : Int32, k9 r = some r0 → V X M lv (.int r :: st) (pc + 3)) : V X M lv stk pc := by
  cases q with
  | none => exact nomatch h
  | some q0 => exact s_callSi hX (hM _ rfl) hmw hml0 hdy hmx hn hs hst hd (fun r M9 e => by obtain ⟨rfl, rfl⟩ := e; exact kk _ h)
set_option maxHeartbeats 1000000 in
theorem e_callSi {α : Type} {r0 : α} {q : Option (Int32 × Mem)} {X : CT} {cc : ByteArray} {own : String} {nL n : Nat} {ad : Nat → Nat} {cI cZ cB : ClassId} {d : Nat} {M : Mem} {lv : List (Nat × Value)} {st : List Value} {pc : Nat} {gl : (Nat → Nat) → ClassId → ClassId → ClassId → Lay}  {y : MethodName} {ccy : ByteArray} {maxL : Nat} {ret : Option FieldType} {dy idx nA : Nat} {av : (Nat → Nat) → List Value}  {stk : List Value} (hX : Ok X cc own nL n ad (gl ad cI cZ cB) cI cZ cB d) (hM : AXi y ccy maxL ret dy n gl av M q) (hmw : MS y ccy maxL ret nA) (hml0 : Cond.methodLink own idx y ∈ UL) (hdy : dy < d) (hmx : maxL ≤ 40) (hn : (av ad).length = nA) (hs : stk = (av ad).reverse ++ st) (hst : (st.map fun v => v.category).sum ≤ 8) (hd : decode cc pc = .ok (.invokestatic idx, 3))  {k9 : Int32 → Mem → Option α} (h : cb q k9 = some r0) (kk : ∀ (r : Int32) (M' : Mem), k9 r M' = some r0 → V X M' lv (.int r :: st) (pc + 3)) : V X M lv stk pc := by
  cases q with
  | none => exact nomatch h
  | some q0 => exact s_callSi hX (hM _ rfl) hmw hml0 hdy hmx hn hs hst hd (fun r M9 e => by cases e; exact kk _ _ h)
set_option maxHeartbeats 1000000 in
theorem e_callSv {α : Type} {r0 : α} {q : Option Mem} {X : CT} {cc : ByteArray} {own : String} {nL n : Nat} {ad : Nat → Nat} {cI cZ cB : ClassId} {d : Nat} {M : Mem} {lv : List (Nat × Value)} {st : List Value} {pc : Nat} {gl : (Nat → Nat) → ClassId → ClassId → ClassId → Lay}  {y : MethodName} {ccy : ByteArray} {maxL : Nat} {ret : Option FieldType} {dy idx nA : Nat} {av : (Nat → Nat) → List Value}  {stk : List Value} (hX : Ok X cc own nL n ad (gl ad cI cZ cB) cI cZ cB d) (hM : AXv y ccy maxL ret dy n gl av M q) (hmw : MS y ccy maxL ret nA) (hml0 : Cond.methodLink own idx y ∈ UL) (hdy : dy < d) (hmx : maxL ≤ 40) (hn : (av ad).length = nA) (hs : stk = (av ad).reverse ++ st) (hst : (st.map fun v => v.category).sum ≤ 8) (hd : decode cc pc = .ok (.invokestatic idx, 3))  {k9 : Mem → Option α} (h : q.bind k9 = some r0) (kk : ∀ (M' : Mem), k9 M' = some r0 → V X M' lv st (pc + 3)) : V X M lv stk pc := by
  cases q with
  | none => exact nomatch h
  | some q0 => exact s_callSv hX (hM _ rfl) hmw hml0 hdy hmx hn hs hst hd (fun M9 e => by cases e; exact kk _ h)
theorem ty_9_10 : ∀ q : vw_C, cls11[9]? = some q → (q.2.1 10).2.2.2 = false ∧ parseFieldDescriptor (q.2.1 10).2.2.1 = some (.object "SteppingStones$Law") := fun q h => by
  have h : some (RX9, TX9, 13) = some q := h
  cases h
  exact ⟨by decide +kernel, by decide +kernel⟩
theorem e_putr10 {X : CT} {cc : ByteArray} {own : String} {nL : Nat} {ad : Nat → Nat} {cI cZ cB : ClassId} {d : Nat} {M : Mem} {lv : List (Nat × Value)} {st : List Value} {pc : Nat} (hX : Ok X cc own nL 60 ad (glC ad cI cZ cB) cI cZ cB d) {idx c : Nat} (hf : FL own idx 9 10) (hc : isL c) (hd : decode cc pc = .ok (.putfield idx, 3)) (kk : V X (mset M 0 10 (nI c)) lv st (pc + 3)) : V X M lv (.ref (ad c) :: .ref (ad 0) :: st) pc := by
  rcases hc with rfl | rfl <;> exact s_put (ty := .object "SteppingStones$Law") hX hf oC0 rfl (Nat.le_of_ble_eq_true rfl) ty_9_10 rfl rfl hd kk
theorem ty_9_11 : ∀ q : vw_C, cls11[9]? = some q → (q.2.1 11).2.2.2 = false ∧ parseFieldDescriptor (q.2.1 11).2.2.1 = some (.object "SteppingStones$Law") := fun q h => by
  have h : some (RX9, TX9, 13) = some q := h
  cases h
  exact ⟨by decide +kernel, by decide +kernel⟩
theorem e_putr11 {X : CT} {cc : ByteArray} {own : String} {nL : Nat} {ad : Nat → Nat} {cI cZ cB : ClassId} {d : Nat} {M : Mem} {lv : List (Nat × Value)} {st : List Value} {pc : Nat} (hX : Ok X cc own nL 60 ad (glC ad cI cZ cB) cI cZ cB d) {idx c : Nat} (hf : FL own idx 9 11) (hc : isL c) (hd : decode cc pc = .ok (.putfield idx, 3)) (kk : V X (mset M 0 11 (nI c)) lv st (pc + 3)) : V X M lv (.ref (ad c) :: .ref (ad 0) :: st) pc := by
  rcases hc with rfl | rfl <;> exact s_put (ty := .object "SteppingStones$Law") hX hf oC0 rfl (Nat.le_of_ble_eq_true rfl) ty_9_11 rfl rfl hd kk
theorem lv_oswI {x : Int32} {a o d : Int} {r : List (Int × Int)} (h : ¬ x.toInt = a) : Op.lookupswitch.offset ((a, o) :: r) d x.toInt = Op.lookupswitch.offset r d x.toInt := by
  rw [Op.lookupswitch.offset_cons, if_neg]
  intro q
  exact h q.symm
