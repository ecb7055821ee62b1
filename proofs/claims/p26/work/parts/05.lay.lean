def fsC1 (ad : Nat → Nat) (f : Nat → Int32) : List Value := [.ref (ad 2), .ref (ad 3), .ref (ad 4), .ref (ad 5), .ref (ad 6), .int (f 5), .int (f 6)]
def fsC7 (ad : Nat → Nat) (f : Nat → Int32) : List Value := [.ref (ad 8), .ref (ad 9), .ref (ad 10), .ref (ad 11), .ref (ad 12), .int (f 5), .int (f 6)]
def fsC13 (ad : Nat → Nat) (f : Nat → Int32) : List Value := [.ref (ad 14), .ref (ad 15), .ref (ad 16), .ref (ad 17), .ref (ad 18), .int (f 5), .int (f 6)]
def fsC19 (ad : Nat → Nat) (f : Nat → Int32) : List Value := [.ref (ad 20), .int (f 1), .int (f 2), .int (f 3), .int (f 4)]
def fsC21 (ad : Nat → Nat) (f : Nat → Int32) : List Value := [.ref (ad 22), .int (f 1), .int (f 2)]
def fsC23 (ad : Nat → Nat) (f : Nat → Int32) : List Value := [.ref (ad 24), .ref (ad 25), .ref (ad 26), .ref (ad 27), .ref (ad 28), .ref (ad 29)]
def fsC30 (ad : Nat → Nat) (f : Nat → Int32) : List Value := [.ref (ad 31), .ref (ad 32), .ref (ad 33), .int (f 3)]
def fsC34 (ad : Nat → Nat) (f : Nat → Int32) : List Value := [.ref (ad 35), .ref (ad 36), .int (f 2), .int (f 3), .int (f 4), .int (f 5)]
def fsC37 (ad : Nat → Nat) (f : Nat → Int32) : List Value := [.ref (ad 38), .ref (ad 39), .ref (ad 40), .ref (ad 41), .ref (ad 42)]
def fsC44 (ad : Nat → Nat) (f : Nat → Int32) : List Value := [.ref (ad 45), .ref (ad 46), .ref (ad 47), .ref (ad 48), .ref (ad 49), .ref (ad 50), .ref (ad 51), .int (f 7), .int (f 8), .int (f 9)]
def fsC52 (ad : Nat → Nat) (f : Nat → Int32) : List Value := [.ref (ad 53), .ref (ad 54), .ref (ad 55), .ref (ad 56), .ref (ad 57), .ref (ad 58), .ref (ad 59), .int (f 7), .int (f 8), .int (f 9)]
def fsC0 (ad : Nat → Nat) (f : Nat → Int32) : List Value := [.ref (ad 1), .ref (ad 7), .ref (ad 13), .ref (ad 19), .ref (ad 21), .ref (ad 23), .ref (ad 30), .ref (ad 34), .ref (ad 37), .ref (ad 43), .ref (ad (f 10).toNatClampNeg), .ref (ad (f 11).toNatClampNeg), .int (f 12)]
def glC (ad : Nat → Nat) (cI cZ cB : ClassId) : Lay := fun k f => (if k < 30 then (if k < 15 then (if k < 7 then (if k < 3 then (if k < 1 then .inr (9, fsC0 ad f) else (if k < 2 then .inr (2, fsC1 ad f) else .inl (cI, 40, .inl f))) else (if k < 5 then (if k < 4 then .inl (cI, 40, .inl f) else .inl (cI, 40, .inl f)) else (if k < 6 then .inl (cZ, 40, .inl f) else .inl (cZ, 40, .inl f)))) else (if k < 11 then (if k < 9 then (if k < 8 then .inr (2, fsC7 ad f) else .inl (cI, 40, .inl f)) else (if k < 10 then .inl (cI, 40, .inl f) else .inl (cI, 40, .inl f))) else (if k < 13 then (if k < 12 then .inl (cZ, 40, .inl f) else .inl (cZ, 40, .inl f)) else (if k < 14 then .inr (2, fsC13 ad f) else .inl (cI, 40, .inl f))))) else (if k < 22 then (if k < 18 then (if k < 16 then .inl (cI, 40, .inl f) else (if k < 17 then .inl (cI, 40, .inl f) else .inl (cZ, 40, .inl f))) else (if k < 20 then (if k < 19 then .inl (cZ, 40, .inl f) else .inr (7, fsC19 ad f)) else (if k < 21 then .inl (cI, 260, .inl f) else .inr (5, fsC21 ad f)))) else (if k < 26 then (if k < 24 then (if k < 23 then .inl (cI, 8, .inl f) else .inr (8, fsC23 ad f)) else (if k < 25 then .inl (cI, 42, .inl f) else .inl (cI, 42, .inl f))) else (if k < 28 then (if k < 27 then .inl (cI, 42, .inl f) else .inl (cI, 42, .inl f)) else (if k < 29 then .inl (cI, 42, .inl f) else .inl (cZ, 42, .inl f)))))) else (if k < 45 then (if k < 37 then (if k < 33 then (if k < 31 then .inr (1, fsC30 ad f) else (if k < 32 then .inl (cI, 40, .inl f) else .inl (cI, 80, .inl f))) else (if k < 35 then (if k < 34 then .inl (cI, 80, .inl f) else .inr (4, fsC34 ad f)) else (if k < 36 then .inl (cI, 60, .inl f) else .inl (cI, 60, .inl f)))) else (if k < 41 then (if k < 39 then (if k < 38 then .inr (0, fsC37 ad f) else .inl (cI, 7, .inl f)) else (if k < 40 then .inl (cI, 7, .inl f) else .inl (cI, 7, .inl f))) else (if k < 43 then (if k < 42 then .inl (cI, 49, .inl f) else .inl (cI, 128, .inl f)) else (if k < 44 then .inl (cI, 8, .inl f) else .inr (3, fsC44 ad f))))) else (if k < 52 then (if k < 48 then (if k < 46 then .inl (cI, 240, .inl f) else (if k < 47 then .inl (cI, 240, .inl f) else .inl (cI, 32, .inl f))) else (if k < 50 then (if k < 49 then .inl (cI, 16, .inl f) else .inl (cI, 16, .inl f)) else (if k < 51 then .inl (cI, 16, .inl f) else .inl (cI, 16, .inl f)))) else (if k < 56 then (if k < 54 then (if k < 53 then .inr (3, fsC52 ad f) else .inl (cI, 240, .inl f)) else (if k < 55 then .inl (cI, 240, .inl f) else .inl (cI, 32, .inl f))) else (if k < 58 then (if k < 57 then .inl (cI, 16, .inl f) else .inl (cI, 16, .inl f)) else (if k < 59 then .inl (cI, 16, .inl f) else .inl (cI, 16, .inl f)))))))
theorem oC0 {ad : Nat → Nat} {cI cZ cB : ClassId} : OB (glC ad cI cZ cB) 60 0 9 (fsC0 ad) := ⟨by decide, fun _ => rfl⟩
theorem oC1 {ad : Nat → Nat} {cI cZ cB : ClassId} : OB (glC ad cI cZ cB) 60 1 2 (fsC1 ad) := ⟨by decide, fun _ => rfl⟩
theorem oC7 {ad : Nat → Nat} {cI cZ cB : ClassId} : OB (glC ad cI cZ cB) 60 7 2 (fsC7 ad) := ⟨by decide, fun _ => rfl⟩
theorem oC13 {ad : Nat → Nat} {cI cZ cB : ClassId} : OB (glC ad cI cZ cB) 60 13 2 (fsC13 ad) := ⟨by decide, fun _ => rfl⟩
theorem oC19 {ad : Nat → Nat} {cI cZ cB : ClassId} : OB (glC ad cI cZ cB) 60 19 7 (fsC19 ad) := ⟨by decide, fun _ => rfl⟩
theorem oC21 {ad : Nat → Nat} {cI cZ cB : ClassId} : OB (glC ad cI cZ cB) 60 21 5 (fsC21 ad) := ⟨by decide, fun _ => rfl⟩
theorem oC23 {ad : Nat → Nat} {cI cZ cB : ClassId} : OB (glC ad cI cZ cB) 60 23 8 (fsC23 ad) := ⟨by decide, fun _ => rfl⟩
theorem oC30 {ad : Nat → Nat} {cI cZ cB : ClassId} : OB (glC ad cI cZ cB) 60 30 1 (fsC30 ad) := ⟨by decide, fun _ => rfl⟩
theorem oC34 {ad : Nat → Nat} {cI cZ cB : ClassId} : OB (glC ad cI cZ cB) 60 34 4 (fsC34 ad) := ⟨by decide, fun _ => rfl⟩
theorem oC37 {ad : Nat → Nat} {cI cZ cB : ClassId} : OB (glC ad cI cZ cB) 60 37 0 (fsC37 ad) := ⟨by decide, fun _ => rfl⟩
theorem oC44 {ad : Nat → Nat} {cI cZ cB : ClassId} : OB (glC ad cI cZ cB) 60 44 3 (fsC44 ad) := ⟨by decide, fun _ => rfl⟩
theorem oC52 {ad : Nat → Nat} {cI cZ cB : ClassId} : OB (glC ad cI cZ cB) 60 52 3 (fsC52 ad) := ⟨by decide, fun _ => rfl⟩
theorem aC2 {ad : Nat → Nat} {cI cZ cB : ClassId} : IA (glC ad cI cZ cB) 60 2 cI 40 := ⟨by decide, fun _ => rfl⟩
theorem aC3 {ad : Nat → Nat} {cI cZ cB : ClassId} : IA (glC ad cI cZ cB) 60 3 cI 40 := ⟨by decide, fun _ => rfl⟩
theorem aC4 {ad : Nat → Nat} {cI cZ cB : ClassId} : IA (glC ad cI cZ cB) 60 4 cI 40 := ⟨by decide, fun _ => rfl⟩
theorem aC5 {ad : Nat → Nat} {cI cZ cB : ClassId} : IA (glC ad cI cZ cB) 60 5 cZ 40 := ⟨by decide, fun _ => rfl⟩
theorem aC6 {ad : Nat → Nat} {cI cZ cB : ClassId} : IA (glC ad cI cZ cB) 60 6 cZ 40 := ⟨by decide, fun _ => rfl⟩
theorem aC8 {ad : Nat → Nat} {cI cZ cB : ClassId} : IA (glC ad cI cZ cB) 60 8 cI 40 := ⟨by decide, fun _ => rfl⟩
theorem aC9 {ad : Nat → Nat} {cI cZ cB : ClassId} : IA (glC ad cI cZ cB) 60 9 cI 40 := ⟨by decide, fun _ => rfl⟩
theorem aC10 {ad : Nat → Nat} {cI cZ cB : ClassId} : IA (glC ad cI cZ cB) 60 10 cI 40 := ⟨by decide, fun _ => rfl⟩
theorem aC11 {ad : Nat → Nat} {cI cZ cB : ClassId} : IA (glC ad cI cZ cB) 60 11 cZ 40 := ⟨by decide, fun _ => rfl⟩
theorem aC12 {ad : Nat → Nat} {cI cZ cB : ClassId} : IA (glC ad cI cZ cB) 60 12 cZ 40 := ⟨by decide, fun _ => rfl⟩
theorem aC14 {ad : Nat → Nat} {cI cZ cB : ClassId} : IA (glC ad cI cZ cB) 60 14 cI 40 := ⟨by decide, fun _ => rfl⟩
theorem aC15 {ad : Nat → Nat} {cI cZ cB : ClassId} : IA (glC ad cI cZ cB) 60 15 cI 40 := ⟨by decide, fun _ => rfl⟩
theorem aC16 {ad : Nat → Nat} {cI cZ cB : ClassId} : IA (glC ad cI cZ cB) 60 16 cI 40 := ⟨by decide, fun _ => rfl⟩
theorem aC17 {ad : Nat → Nat} {cI cZ cB : ClassId} : IA (glC ad cI cZ cB) 60 17 cZ 40 := ⟨by decide, fun _ => rfl⟩
theorem aC18 {ad : Nat → Nat} {cI cZ cB : ClassId} : IA (glC ad cI cZ cB) 60 18 cZ 40 := ⟨by decide, fun _ => rfl⟩
theorem aC20 {ad : Nat → Nat} {cI cZ cB : ClassId} : IA (glC ad cI cZ cB) 60 20 cI 260 := ⟨by decide, fun _ => rfl⟩
theorem aC22 {ad : Nat → Nat} {cI cZ cB : ClassId} : IA (glC ad cI cZ cB) 60 22 cI 8 := ⟨by decide, fun _ => rfl⟩
theorem aC24 {ad : Nat → Nat} {cI cZ cB : ClassId} : IA (glC ad cI cZ cB) 60 24 cI 42 := ⟨by decide, fun _ => rfl⟩
theorem aC25 {ad : Nat → Nat} {cI cZ cB : ClassId} : IA (glC ad cI cZ cB) 60 25 cI 42 := ⟨by decide, fun _ => rfl⟩
theorem aC26 {ad : Nat → Nat} {cI cZ cB : ClassId} : IA (glC ad cI cZ cB) 60 26 cI 42 := ⟨by decide, fun _ => rfl⟩
theorem aC27 {ad : Nat → Nat} {cI cZ cB : ClassId} : IA (glC ad cI cZ cB) 60 27 cI 42 := ⟨by decide, fun _ => rfl⟩
theorem aC28 {ad : Nat → Nat} {cI cZ cB : ClassId} : IA (glC ad cI cZ cB) 60 28 cI 42 := ⟨by decide, fun _ => rfl⟩
theorem aC29 {ad : Nat → Nat} {cI cZ cB : ClassId} : IA (glC ad cI cZ cB) 60 29 cZ 42 := ⟨by decide, fun _ => rfl⟩
theorem aC31 {ad : Nat → Nat} {cI cZ cB : ClassId} : IA (glC ad cI cZ cB) 60 31 cI 40 := ⟨by decide, fun _ => rfl⟩
theorem aC32 {ad : Nat → Nat} {cI cZ cB : ClassId} : IA (glC ad cI cZ cB) 60 32 cI 80 := ⟨by decide, fun _ => rfl⟩
theorem aC33 {ad : Nat → Nat} {cI cZ cB : ClassId} : IA (glC ad cI cZ cB) 60 33 cI 80 := ⟨by decide, fun _ => rfl⟩
theorem aC35 {ad : Nat → Nat} {cI cZ cB : ClassId} : IA (glC ad cI cZ cB) 60 35 cI 60 := ⟨by decide, fun _ => rfl⟩
theorem aC36 {ad : Nat → Nat} {cI cZ cB : ClassId} : IA (glC ad cI cZ cB) 60 36 cI 60 := ⟨by decide, fun _ => rfl⟩
theorem aC38 {ad : Nat → Nat} {cI cZ cB : ClassId} : IA (glC ad cI cZ cB) 60 38 cI 7 := ⟨by decide, fun _ => rfl⟩
theorem aC39 {ad : Nat → Nat} {cI cZ cB : ClassId} : IA (glC ad cI cZ cB) 60 39 cI 7 := ⟨by decide, fun _ => rfl⟩
theorem aC40 {ad : Nat → Nat} {cI cZ cB : ClassId} : IA (glC ad cI cZ cB) 60 40 cI 7 := ⟨by decide, fun _ => rfl⟩
theorem aC41 {ad : Nat → Nat} {cI cZ cB : ClassId} : IA (glC ad cI cZ cB) 60 41 cI 49 := ⟨by decide, fun _ => rfl⟩
theorem aC42 {ad : Nat → Nat} {cI cZ cB : ClassId} : IA (glC ad cI cZ cB) 60 42 cI 128 := ⟨by decide, fun _ => rfl⟩
theorem aC43 {ad : Nat → Nat} {cI cZ cB : ClassId} : IA (glC ad cI cZ cB) 60 43 cI 8 := ⟨by decide, fun _ => rfl⟩
theorem aC45 {ad : Nat → Nat} {cI cZ cB : ClassId} : IA (glC ad cI cZ cB) 60 45 cI 240 := ⟨by decide, fun _ => rfl⟩
theorem aC46 {ad : Nat → Nat} {cI cZ cB : ClassId} : IA (glC ad cI cZ cB) 60 46 cI 240 := ⟨by decide, fun _ => rfl⟩
theorem aC47 {ad : Nat → Nat} {cI cZ cB : ClassId} : IA (glC ad cI cZ cB) 60 47 cI 32 := ⟨by decide, fun _ => rfl⟩
theorem aC48 {ad : Nat → Nat} {cI cZ cB : ClassId} : IA (glC ad cI cZ cB) 60 48 cI 16 := ⟨by decide, fun _ => rfl⟩
theorem aC49 {ad : Nat → Nat} {cI cZ cB : ClassId} : IA (glC ad cI cZ cB) 60 49 cI 16 := ⟨by decide, fun _ => rfl⟩
theorem aC50 {ad : Nat → Nat} {cI cZ cB : ClassId} : IA (glC ad cI cZ cB) 60 50 cI 16 := ⟨by decide, fun _ => rfl⟩
theorem aC51 {ad : Nat → Nat} {cI cZ cB : ClassId} : IA (glC ad cI cZ cB) 60 51 cI 16 := ⟨by decide, fun _ => rfl⟩
theorem aC53 {ad : Nat → Nat} {cI cZ cB : ClassId} : IA (glC ad cI cZ cB) 60 53 cI 240 := ⟨by decide, fun _ => rfl⟩
theorem aC54 {ad : Nat → Nat} {cI cZ cB : ClassId} : IA (glC ad cI cZ cB) 60 54 cI 240 := ⟨by decide, fun _ => rfl⟩
theorem aC55 {ad : Nat → Nat} {cI cZ cB : ClassId} : IA (glC ad cI cZ cB) 60 55 cI 32 := ⟨by decide, fun _ => rfl⟩
theorem aC56 {ad : Nat → Nat} {cI cZ cB : ClassId} : IA (glC ad cI cZ cB) 60 56 cI 16 := ⟨by decide, fun _ => rfl⟩
theorem aC57 {ad : Nat → Nat} {cI cZ cB : ClassId} : IA (glC ad cI cZ cB) 60 57 cI 16 := ⟨by decide, fun _ => rfl⟩
theorem aC58 {ad : Nat → Nat} {cI cZ cB : ClassId} : IA (glC ad cI cZ cB) 60 58 cI 16 := ⟨by decide, fun _ => rfl⟩
theorem aC59 {ad : Nat → Nat} {cI cZ cB : ClassId} : IA (glC ad cI cZ cB) 60 59 cI 16 := ⟨by decide, fun _ => rfl⟩
def fsM0 (ad : Nat → Nat) (f : Nat → Int32) : List Value := [.ref (ad 1), .ref (ad 2), .ref (ad 3), .ref (ad 4), .int (f 4), .ref (ad 5), .int (f 6), .int (f 7), .int (f 8), .int (f 9), .int (f 10), .int (f 11), .int (f 12), .int (f 13), .int (f 14), .int (f 15), .ref (ad 6), .ref (ad 7), .ref (ad 8), .ref (ad 9), .ref (ad 10), .ref (ad 11), .ref (ad 12), .ref (ad 13), .ref (ad 14), .ref (ad 15), .ref (ad 16), .ref (ad 17), .ref (ad 18), .ref (ad 19), .ref (ad 20), .ref (ad 21), .ref (ad 22), .int (f 33), .int (f 34), .int (f 35), .ref (ad 23), .ref (ad 24), .ref (ad 25), .ref (ad 26), .ref (ad 27), .ref (ad 28), .ref (ad 29), .ref (ad 30), .ref (ad 31), .ref (ad 32), .ref (ad 33), .ref (ad 34), .ref (ad 35), .int (f 49), .int (f 50), .ref (ad 36), .ref (ad 37), .ref (ad 38), .int (f 54)]
def glM (ad : Nat → Nat) (cI cZ cB : ClassId) : Lay := fun k f => (if k < 19 then (if k < 9 then (if k < 4 then (if k < 2 then (if k < 1 then .inr (10, fsM0 ad f) else .inl (cI, 202, .inl f)) else (if k < 3 then .inl (cI, 202, .inl f) else .inl (cI, 202, .inl f))) else (if k < 6 then (if k < 5 then .inl (cI, 8, .inl f) else .inl (cB, 260, .inl f)) else (if k < 7 then .inl (cI, 260, .inl f) else (if k < 8 then .inl (cI, 260, .inl f) else .inl (cI, 16, .inl f))))) else (if k < 14 then (if k < 11 then (if k < 10 then .inl (cI, 16, .inl f) else .inl (cI, 16, .inl f)) else (if k < 12 then .inl (cI, 16, .inl f) else (if k < 13 then .inl (cI, 260, .inl f) else .inl (cI, 16, .inl f)))) else (if k < 16 then (if k < 15 then .inl (cI, 16, .inl f) else .inl (cI, 16, .inl f)) else (if k < 17 then .inl (cI, 16, .inl f) else (if k < 18 then .inl (cI, 260, .inl f) else .inl (cI, 8, .inl f)))))) else (if k < 29 then (if k < 24 then (if k < 21 then (if k < 20 then .inl (cI, 40, .inl f) else .inl (cI, 40, .inl f)) else (if k < 22 then .inl (cI, 40, .inl f) else (if k < 23 then .inl (cI, 40, .inl f) else .inl (cI, 40, .inl f)))) else (if k < 26 then (if k < 25 then .inl (cI, 40, .inl f) else .inl (cI, 40, .inl f)) else (if k < 27 then .inl (cI, 40, .inl f) else (if k < 28 then .inl (cI, 40, .inl f) else .inl (cB, 6724, .inl f))))) else (if k < 34 then (if k < 31 then (if k < 30 then .inl (cI, 82, .inl f) else .inl (cI, 82, .inl f)) else (if k < 32 then .inl (cI, 40, .inl f) else (if k < 33 then .inl (cI, 60, .inl f) else .inl (cI, 60, .inl f)))) else (if k < 36 then (if k < 35 then .inl (cI, 2, .inl f) else .inl (cI, 2, .inl f)) else (if k < 37 then .inl (cI, 7, .inl f) else (if k < 38 then .inl (cI, 7, .inl f) else .inl (cI, 7, .inl f)))))))
theorem oM0 {ad : Nat → Nat} {cI cZ cB : ClassId} : OB (glM ad cI cZ cB) 39 0 10 (fsM0 ad) := ⟨by decide, fun _ => rfl⟩
theorem aM1 {ad : Nat → Nat} {cI cZ cB : ClassId} : IA (glM ad cI cZ cB) 39 1 cI 202 := ⟨by decide, fun _ => rfl⟩
theorem aM2 {ad : Nat → Nat} {cI cZ cB : ClassId} : IA (glM ad cI cZ cB) 39 2 cI 202 := ⟨by decide, fun _ => rfl⟩
theorem aM3 {ad : Nat → Nat} {cI cZ cB : ClassId} : IA (glM ad cI cZ cB) 39 3 cI 202 := ⟨by decide, fun _ => rfl⟩
theorem aM4 {ad : Nat → Nat} {cI cZ cB : ClassId} : IA (glM ad cI cZ cB) 39 4 cI 8 := ⟨by decide, fun _ => rfl⟩
theorem aM5 {ad : Nat → Nat} {cI cZ cB : ClassId} : IA (glM ad cI cZ cB) 39 5 cB 260 := ⟨by decide, fun _ => rfl⟩
theorem aM6 {ad : Nat → Nat} {cI cZ cB : ClassId} : IA (glM ad cI cZ cB) 39 6 cI 260 := ⟨by decide, fun _ => rfl⟩
theorem aM7 {ad : Nat → Nat} {cI cZ cB : ClassId} : IA (glM ad cI cZ cB) 39 7 cI 260 := ⟨by decide, fun _ => rfl⟩
theorem aM8 {ad : Nat → Nat} {cI cZ cB : ClassId} : IA (glM ad cI cZ cB) 39 8 cI 16 := ⟨by decide, fun _ => rfl⟩
theorem aM9 {ad : Nat → Nat} {cI cZ cB : ClassId} : IA (glM ad cI cZ cB) 39 9 cI 16 := ⟨by decide, fun _ => rfl⟩
theorem aM10 {ad : Nat → Nat} {cI cZ cB : ClassId} : IA (glM ad cI cZ cB) 39 10 cI 16 := ⟨by decide, fun _ => rfl⟩
theorem aM11 {ad : Nat → Nat} {cI cZ cB : ClassId} : IA (glM ad cI cZ cB) 39 11 cI 16 := ⟨by decide, fun _ => rfl⟩
theorem aM12 {ad : Nat → Nat} {cI cZ cB : ClassId} : IA (glM ad cI cZ cB) 39 12 cI 260 := ⟨by decide, fun _ => rfl⟩
theorem aM13 {ad : Nat → Nat} {cI cZ cB : ClassId} : IA (glM ad cI cZ cB) 39 13 cI 16 := ⟨by decide, fun _ => rfl⟩
theorem aM14 {ad : Nat → Nat} {cI cZ cB : ClassId} : IA (glM ad cI cZ cB) 39 14 cI 16 := ⟨by decide, fun _ => rfl⟩
theorem aM15 {ad : Nat → Nat} {cI cZ cB : ClassId} : IA (glM ad cI cZ cB) 39 15 cI 16 := ⟨by decide, fun _ => rfl⟩
theorem aM16 {ad : Nat → Nat} {cI cZ cB : ClassId} : IA (glM ad cI cZ cB) 39 16 cI 16 := ⟨by decide, fun _ => rfl⟩
theorem aM17 {ad : Nat → Nat} {cI cZ cB : ClassId} : IA (glM ad cI cZ cB) 39 17 cI 260 := ⟨by decide, fun _ => rfl⟩
theorem aM18 {ad : Nat → Nat} {cI cZ cB : ClassId} : IA (glM ad cI cZ cB) 39 18 cI 8 := ⟨by decide, fun _ => rfl⟩
theorem aM19 {ad : Nat → Nat} {cI cZ cB : ClassId} : IA (glM ad cI cZ cB) 39 19 cI 40 := ⟨by decide, fun _ => rfl⟩
theorem aM20 {ad : Nat → Nat} {cI cZ cB : ClassId} : IA (glM ad cI cZ cB) 39 20 cI 40 := ⟨by decide, fun _ => rfl⟩
theorem aM21 {ad : Nat → Nat} {cI cZ cB : ClassId} : IA (glM ad cI cZ cB) 39 21 cI 40 := ⟨by decide, fun _ => rfl⟩
theorem aM22 {ad : Nat → Nat} {cI cZ cB : ClassId} : IA (glM ad cI cZ cB) 39 22 cI 40 := ⟨by decide, fun _ => rfl⟩
theorem aM23 {ad : Nat → Nat} {cI cZ cB : ClassId} : IA (glM ad cI cZ cB) 39 23 cI 40 := ⟨by decide, fun _ => rfl⟩
theorem aM24 {ad : Nat → Nat} {cI cZ cB : ClassId} : IA (glM ad cI cZ cB) 39 24 cI 40 := ⟨by decide, fun _ => rfl⟩
theorem aM25 {ad : Nat → Nat} {cI cZ cB : ClassId} : IA (glM ad cI cZ cB) 39 25 cI 40 := ⟨by decide, fun _ => rfl⟩
theorem aM26 {ad : Nat → Nat} {cI cZ cB : ClassId} : IA (glM ad cI cZ cB) 39 26 cI 40 := ⟨by decide, fun _ => rfl⟩
theorem aM27 {ad : Nat → Nat} {cI cZ cB : ClassId} : IA (glM ad cI cZ cB) 39 27 cI 40 := ⟨by decide, fun _ => rfl⟩
theorem aM28 {ad : Nat → Nat} {cI cZ cB : ClassId} : IA (glM ad cI cZ cB) 39 28 cB 6724 := ⟨by decide, fun _ => rfl⟩
theorem aM29 {ad : Nat → Nat} {cI cZ cB : ClassId} : IA (glM ad cI cZ cB) 39 29 cI 82 := ⟨by decide, fun _ => rfl⟩
theorem aM30 {ad : Nat → Nat} {cI cZ cB : ClassId} : IA (glM ad cI cZ cB) 39 30 cI 82 := ⟨by decide, fun _ => rfl⟩
theorem aM31 {ad : Nat → Nat} {cI cZ cB : ClassId} : IA (glM ad cI cZ cB) 39 31 cI 40 := ⟨by decide, fun _ => rfl⟩
theorem aM32 {ad : Nat → Nat} {cI cZ cB : ClassId} : IA (glM ad cI cZ cB) 39 32 cI 60 := ⟨by decide, fun _ => rfl⟩
theorem aM33 {ad : Nat → Nat} {cI cZ cB : ClassId} : IA (glM ad cI cZ cB) 39 33 cI 60 := ⟨by decide, fun _ => rfl⟩
theorem aM34 {ad : Nat → Nat} {cI cZ cB : ClassId} : IA (glM ad cI cZ cB) 39 34 cI 2 := ⟨by decide, fun _ => rfl⟩
theorem aM35 {ad : Nat → Nat} {cI cZ cB : ClassId} : IA (glM ad cI cZ cB) 39 35 cI 2 := ⟨by decide, fun _ => rfl⟩
theorem aM36 {ad : Nat → Nat} {cI cZ cB : ClassId} : IA (glM ad cI cZ cB) 39 36 cI 7 := ⟨by decide, fun _ => rfl⟩
theorem aM37 {ad : Nat → Nat} {cI cZ cB : ClassId} : IA (glM ad cI cZ cB) 39 37 cI 7 := ⟨by decide, fun _ => rfl⟩
theorem aM38 {ad : Nat → Nat} {cI cZ cB : ClassId} : IA (glM ad cI cZ cB) 39 38 cI 7 := ⟨by decide, fun _ => rfl⟩
theorem ty_1_3 : ∀ q : vw_C, cls11[1]? = some q → (q.2.1 3).2.2.2 = false ∧ parseFieldDescriptor (q.2.1 3).2.2.1 = some .int := fun q h => by
  have h : some (RX1, TX1, 4) = some q := h
  cases h
  exact ⟨by decide +kernel, by decide +kernel⟩
theorem ty_2_5 : ∀ q : vw_C, cls11[2]? = some q → (q.2.1 5).2.2.2 = false ∧ parseFieldDescriptor (q.2.1 5).2.2.1 = some .int := fun q h => by
  have h : some (RX2, TX2, 7) = some q := h
  cases h
  exact ⟨by decide +kernel, by decide +kernel⟩
theorem ty_2_6 : ∀ q : vw_C, cls11[2]? = some q → (q.2.1 6).2.2.2 = false ∧ parseFieldDescriptor (q.2.1 6).2.2.1 = some .int := fun q h => by
  have h : some (RX2, TX2, 7) = some q := h
  cases h
  exact ⟨by decide +kernel, by decide +kernel⟩
theorem ty_3_7 : ∀ q : vw_C, cls11[3]? = some q → (q.2.1 7).2.2.2 = false ∧ parseFieldDescriptor (q.2.1 7).2.2.1 = some .int := fun q h => by
  have h : some (RX3, TX3, 10) = some q := h
  cases h
  exact ⟨by decide +kernel, by decide +kernel⟩
theorem ty_3_8 : ∀ q : vw_C, cls11[3]? = some q → (q.2.1 8).2.2.2 = false ∧ parseFieldDescriptor (q.2.1 8).2.2.1 = some .int := fun q h => by
  have h : some (RX3, TX3, 10) = some q := h
  cases h
  exact ⟨by decide +kernel, by decide +kernel⟩
theorem ty_3_9 : ∀ q : vw_C, cls11[3]? = some q → (q.2.1 9).2.2.2 = false ∧ parseFieldDescriptor (q.2.1 9).2.2.1 = some .boolean := fun q h => by
  have h : some (RX3, TX3, 10) = some q := h
  cases h
  exact ⟨by decide +kernel, by decide +kernel⟩
theorem ty_4_2 : ∀ q : vw_C, cls11[4]? = some q → (q.2.1 2).2.2.2 = false ∧ parseFieldDescriptor (q.2.1 2).2.2.1 = some .int := fun q h => by
  have h : some (RX4, TX4, 6) = some q := h
  cases h
  exact ⟨by decide +kernel, by decide +kernel⟩
theorem ty_4_3 : ∀ q : vw_C, cls11[4]? = some q → (q.2.1 3).2.2.2 = false ∧ parseFieldDescriptor (q.2.1 3).2.2.1 = some .int := fun q h => by
  have h : some (RX4, TX4, 6) = some q := h
  cases h
  exact ⟨by decide +kernel, by decide +kernel⟩
theorem ty_4_4 : ∀ q : vw_C, cls11[4]? = some q → (q.2.1 4).2.2.2 = false ∧ parseFieldDescriptor (q.2.1 4).2.2.1 = some .int := fun q h => by
  have h : some (RX4, TX4, 6) = some q := h
  cases h
  exact ⟨by decide +kernel, by decide +kernel⟩
theorem ty_4_5 : ∀ q : vw_C, cls11[4]? = some q → (q.2.1 5).2.2.2 = false ∧ parseFieldDescriptor (q.2.1 5).2.2.1 = some .int := fun q h => by
  have h : some (RX4, TX4, 6) = some q := h
  cases h
  exact ⟨by decide +kernel, by decide +kernel⟩
theorem ty_5_1 : ∀ q : vw_C, cls11[5]? = some q → (q.2.1 1).2.2.2 = false ∧ parseFieldDescriptor (q.2.1 1).2.2.1 = some .int := fun q h => by
  have h : some (RX5, TX5, 3) = some q := h
  cases h
  exact ⟨by decide +kernel, by decide +kernel⟩
theorem ty_5_2 : ∀ q : vw_C, cls11[5]? = some q → (q.2.1 2).2.2.2 = false ∧ parseFieldDescriptor (q.2.1 2).2.2.1 = some .int := fun q h => by
  have h : some (RX5, TX5, 3) = some q := h
  cases h
  exact ⟨by decide +kernel, by decide +kernel⟩
theorem ty_7_1 : ∀ q : vw_C, cls11[7]? = some q → (q.2.1 1).2.2.2 = false ∧ parseFieldDescriptor (q.2.1 1).2.2.1 = some .int := fun q h => by
  have h : some (RX7, TX7, 5) = some q := h
  cases h
  exact ⟨by decide +kernel, by decide +kernel⟩
theorem ty_7_2 : ∀ q : vw_C, cls11[7]? = some q → (q.2.1 2).2.2.2 = false ∧ parseFieldDescriptor (q.2.1 2).2.2.1 = some .int := fun q h => by
  have h : some (RX7, TX7, 5) = some q := h
  cases h
  exact ⟨by decide +kernel, by decide +kernel⟩
theorem ty_7_3 : ∀ q : vw_C, cls11[7]? = some q → (q.2.1 3).2.2.2 = false ∧ parseFieldDescriptor (q.2.1 3).2.2.1 = some .int := fun q h => by
  have h : some (RX7, TX7, 5) = some q := h
  cases h
  exact ⟨by decide +kernel, by decide +kernel⟩
theorem ty_7_4 : ∀ q : vw_C, cls11[7]? = some q → (q.2.1 4).2.2.2 = false ∧ parseFieldDescriptor (q.2.1 4).2.2.1 = some .int := fun q h => by
  have h : some (RX7, TX7, 5) = some q := h
  cases h
  exact ⟨by decide +kernel, by decide +kernel⟩
theorem ty_9_12 : ∀ q : vw_C, cls11[9]? = some q → (q.2.1 12).2.2.2 = false ∧ parseFieldDescriptor (q.2.1 12).2.2.1 = some .boolean := fun q h => by
  have h : some (RX9, TX9, 13) = some q := h
  cases h
  exact ⟨by decide +kernel, by decide +kernel⟩
theorem ty_10_4 : ∀ q : vw_C, cls11[10]? = some q → (q.2.1 4).2.2.2 = false ∧ parseFieldDescriptor (q.2.1 4).2.2.1 = some .int := fun q h => by
  have h : some (RX10, TX10, 55) = some q := h
  cases h
  exact ⟨by decide +kernel, by decide +kernel⟩
theorem ty_10_6 : ∀ q : vw_C, cls11[10]? = some q → (q.2.1 6).2.2.2 = false ∧ parseFieldDescriptor (q.2.1 6).2.2.1 = some .int := fun q h => by
  have h : some (RX10, TX10, 55) = some q := h
  cases h
  exact ⟨by decide +kernel, by decide +kernel⟩
theorem ty_10_7 : ∀ q : vw_C, cls11[10]? = some q → (q.2.1 7).2.2.2 = false ∧ parseFieldDescriptor (q.2.1 7).2.2.1 = some .int := fun q h => by
  have h : some (RX10, TX10, 55) = some q := h
  cases h
  exact ⟨by decide +kernel, by decide +kernel⟩
theorem ty_10_8 : ∀ q : vw_C, cls11[10]? = some q → (q.2.1 8).2.2.2 = false ∧ parseFieldDescriptor (q.2.1 8).2.2.1 = some .int := fun q h => by
  have h : some (RX10, TX10, 55) = some q := h
  cases h
  exact ⟨by decide +kernel, by decide +kernel⟩
theorem ty_10_9 : ∀ q : vw_C, cls11[10]? = some q → (q.2.1 9).2.2.2 = false ∧ parseFieldDescriptor (q.2.1 9).2.2.1 = some .int := fun q h => by
  have h : some (RX10, TX10, 55) = some q := h
  cases h
  exact ⟨by decide +kernel, by decide +kernel⟩
theorem ty_10_10 : ∀ q : vw_C, cls11[10]? = some q → (q.2.1 10).2.2.2 = false ∧ parseFieldDescriptor (q.2.1 10).2.2.1 = some .int := fun q h => by
  have h : some (RX10, TX10, 55) = some q := h
  cases h
  exact ⟨by decide +kernel, by decide +kernel⟩
theorem ty_10_11 : ∀ q : vw_C, cls11[10]? = some q → (q.2.1 11).2.2.2 = false ∧ parseFieldDescriptor (q.2.1 11).2.2.1 = some .int := fun q h => by
  have h : some (RX10, TX10, 55) = some q := h
  cases h
  exact ⟨by decide +kernel, by decide +kernel⟩
theorem ty_10_12 : ∀ q : vw_C, cls11[10]? = some q → (q.2.1 12).2.2.2 = false ∧ parseFieldDescriptor (q.2.1 12).2.2.1 = some .int := fun q h => by
  have h : some (RX10, TX10, 55) = some q := h
  cases h
  exact ⟨by decide +kernel, by decide +kernel⟩
theorem ty_10_13 : ∀ q : vw_C, cls11[10]? = some q → (q.2.1 13).2.2.2 = false ∧ parseFieldDescriptor (q.2.1 13).2.2.1 = some .int := fun q h => by
  have h : some (RX10, TX10, 55) = some q := h
  cases h
  exact ⟨by decide +kernel, by decide +kernel⟩
theorem ty_10_14 : ∀ q : vw_C, cls11[10]? = some q → (q.2.1 14).2.2.2 = false ∧ parseFieldDescriptor (q.2.1 14).2.2.1 = some .int := fun q h => by
  have h : some (RX10, TX10, 55) = some q := h
  cases h
  exact ⟨by decide +kernel, by decide +kernel⟩
theorem ty_10_15 : ∀ q : vw_C, cls11[10]? = some q → (q.2.1 15).2.2.2 = false ∧ parseFieldDescriptor (q.2.1 15).2.2.1 = some .int := fun q h => by
  have h : some (RX10, TX10, 55) = some q := h
  cases h
  exact ⟨by decide +kernel, by decide +kernel⟩
theorem ty_10_33 : ∀ q : vw_C, cls11[10]? = some q → (q.2.1 33).2.2.2 = false ∧ parseFieldDescriptor (q.2.1 33).2.2.1 = some .int := fun q h => by
  have h : some (RX10, TX10, 55) = some q := h
  cases h
  exact ⟨by decide +kernel, by decide +kernel⟩
theorem ty_10_34 : ∀ q : vw_C, cls11[10]? = some q → (q.2.1 34).2.2.2 = false ∧ parseFieldDescriptor (q.2.1 34).2.2.1 = some .int := fun q h => by
  have h : some (RX10, TX10, 55) = some q := h
  cases h
  exact ⟨by decide +kernel, by decide +kernel⟩
theorem ty_10_35 : ∀ q : vw_C, cls11[10]? = some q → (q.2.1 35).2.2.2 = false ∧ parseFieldDescriptor (q.2.1 35).2.2.1 = some .int := fun q h => by
  have h : some (RX10, TX10, 55) = some q := h
  cases h
  exact ⟨by decide +kernel, by decide +kernel⟩
theorem ty_10_49 : ∀ q : vw_C, cls11[10]? = some q → (q.2.1 49).2.2.2 = false ∧ parseFieldDescriptor (q.2.1 49).2.2.1 = some .int := fun q h => by
  have h : some (RX10, TX10, 55) = some q := h
  cases h
  exact ⟨by decide +kernel, by decide +kernel⟩
theorem ty_10_50 : ∀ q : vw_C, cls11[10]? = some q → (q.2.1 50).2.2.2 = false ∧ parseFieldDescriptor (q.2.1 50).2.2.1 = some .int := fun q h => by
  have h : some (RX10, TX10, 55) = some q := h
  cases h
  exact ⟨by decide +kernel, by decide +kernel⟩
theorem ty_10_54 : ∀ q : vw_C, cls11[10]? = some q → (q.2.1 54).2.2.2 = false ∧ parseFieldDescriptor (q.2.1 54).2.2.1 = some .boolean := fun q h => by
  have h : some (RX10, TX10, 55) = some q := h
  cases h
  exact ⟨by decide +kernel, by decide +kernel⟩
def isF (b : Nat) : Prop := b = 1 ∨ b = 7 ∨ b = 13
def fsF (b : Nat) (ad : Nat → Nat) (f : Nat → Int32) : List Value := [.ref (ad (b + 1)), .ref (ad (b + 2)), .ref (ad (b + 3)), .ref (ad (b + 4)), .ref (ad (b + 5)), .int (f 5), .int (f 6)]
theorem oF {b : Nat} (h : isF b) {ad : Nat → Nat} {cI cZ cB : ClassId} : OB (glC ad cI cZ cB) 60 b 2 (fsF b ad) := by
  rcases h with rfl | rfl | rfl <;> exact ⟨by decide, fun _ => rfl⟩
def isL (b : Nat) : Prop := b = 44 ∨ b = 52
def fsL (b : Nat) (ad : Nat → Nat) (f : Nat → Int32) : List Value := [.ref (ad (b + 1)), .ref (ad (b + 2)), .ref (ad (b + 3)), .ref (ad (b + 4)), .ref (ad (b + 5)), .ref (ad (b + 6)), .ref (ad (b + 7)), .int (f 7), .int (f 8), .int (f 9)]
theorem oL {b : Nat} (h : isL b) {ad : Nat → Nat} {cI cZ cB : ClassId} : OB (glC ad cI cZ cB) 60 b 3 (fsL b ad) := by
  rcases h with rfl | rfl <;> exact ⟨by decide, fun _ => rfl⟩
theorem aF1 {b : Nat} (h : isF b) {ad : Nat → Nat} {cI cZ cB : ClassId} : IA (glC ad cI cZ cB) 60 (b + 1) cI 40 := by
  rcases h with rfl | rfl | rfl <;> exact ⟨by decide, fun _ => rfl⟩
theorem aF2 {b : Nat} (h : isF b) {ad : Nat → Nat} {cI cZ cB : ClassId} : IA (glC ad cI cZ cB) 60 (b + 2) cI 40 := by
  rcases h with rfl | rfl | rfl <;> exact ⟨by decide, fun _ => rfl⟩
theorem aF3 {b : Nat} (h : isF b) {ad : Nat → Nat} {cI cZ cB : ClassId} : IA (glC ad cI cZ cB) 60 (b + 3) cI 40 := by
  rcases h with rfl | rfl | rfl <;> exact ⟨by decide, fun _ => rfl⟩
theorem aF4 {b : Nat} (h : isF b) {ad : Nat → Nat} {cI cZ cB : ClassId} : IA (glC ad cI cZ cB) 60 (b + 4) cZ 40 := by
  rcases h with rfl | rfl | rfl <;> exact ⟨by decide, fun _ => rfl⟩
theorem aF5 {b : Nat} (h : isF b) {ad : Nat → Nat} {cI cZ cB : ClassId} : IA (glC ad cI cZ cB) 60 (b + 5) cZ 40 := by
  rcases h with rfl | rfl | rfl <;> exact ⟨by decide, fun _ => rfl⟩
theorem aL1 {b : Nat} (h : isL b) {ad : Nat → Nat} {cI cZ cB : ClassId} : IA (glC ad cI cZ cB) 60 (b + 1) cI 240 := by
  rcases h with rfl | rfl <;> exact ⟨by decide, fun _ => rfl⟩
theorem aL2 {b : Nat} (h : isL b) {ad : Nat → Nat} {cI cZ cB : ClassId} : IA (glC ad cI cZ cB) 60 (b + 2) cI 240 := by
  rcases h with rfl | rfl <;> exact ⟨by decide, fun _ => rfl⟩
theorem aL3 {b : Nat} (h : isL b) {ad : Nat → Nat} {cI cZ cB : ClassId} : IA (glC ad cI cZ cB) 60 (b + 3) cI 32 := by
  rcases h with rfl | rfl <;> exact ⟨by decide, fun _ => rfl⟩
theorem aL4 {b : Nat} (h : isL b) {ad : Nat → Nat} {cI cZ cB : ClassId} : IA (glC ad cI cZ cB) 60 (b + 4) cI 16 := by
  rcases h with rfl | rfl <;> exact ⟨by decide, fun _ => rfl⟩
theorem aL5 {b : Nat} (h : isL b) {ad : Nat → Nat} {cI cZ cB : ClassId} : IA (glC ad cI cZ cB) 60 (b + 5) cI 16 := by
  rcases h with rfl | rfl <;> exact ⟨by decide, fun _ => rfl⟩
theorem aL6 {b : Nat} (h : isL b) {ad : Nat → Nat} {cI cZ cB : ClassId} : IA (glC ad cI cZ cB) 60 (b + 6) cI 16 := by
  rcases h with rfl | rfl <;> exact ⟨by decide, fun _ => rfl⟩
theorem aL7 {b : Nat} (h : isL b) {ad : Nat → Nat} {cI cZ cB : ClassId} : IA (glC ad cI cZ cB) 60 (b + 7) cI 16 := by
  rcases h with rfl | rfl <;> exact ⟨by decide, fun _ => rfl⟩
/-! small rows -/
theorem vin_of {x : Int32} {n : Nat} (h0 : ¬ x < 0) (h : ¬ nI n ≤ x) (hn : n < 2 ^ 31 := by decide) : vp_in x n := by
  rw [vp_in_iff]
  rw [Int32.lt_iff_toInt_lt, Int32.toInt_zero] at h0
  rw [Int32.le_iff_toInt_le, nI_toInt hn] at h
  omega
theorem ix_of {x : Int32} {n : Nat} (h0 : ¬ x < 0) (h : ¬ nI n ≤ x) (hn : n < 2 ^ 31 := by decide) : ∃ i : Nat, i < n ∧ x = nI i := vp_in_of (vin_of h0 h hn) hn
theorem mset_get {M : Mem} {k i a b : Nat} {x : Int32} : mset M k i x a b = if a = k ∧ b = i then x else M a b := by
  unfold mset upd
  by_cases h1 : a = k
  · by_cases h2 : b = i
    · simp [h1, h2]
    · simp [h1, h2]
  · simp [h1]
def bI (p : Prop) [Decidable p] : Int32 := if p then 1 else 0
theorem bI_t {p : Prop} [Decidable p] (h : p) : nI 1 = bI p := by rw [bI, if_pos h]; rfl
theorem bI_f {p : Prop} [Decidable p] (h : ¬ p) : nI 0 = bI p := by rw [bI, if_neg h]; rfl
theorem bI_ne {p : Prop} [Decidable p] (h : ¬ bI p = 0) : p := by
  by_cases hp : p
  · exact hp
  · exact absurd (by rw [bI, if_neg hp]) h
theorem bI_eq {p : Prop} [Decidable p] (h : bI p = 0) : ¬ p := by
  intro hp
  rw [bI, if_pos hp] at h
  exact absurd h (by decide)
theorem q_lt {x : Int32} {n : Nat} (h : n < 2 ^ 31) : x < nI n ↔ x.toInt < (n : Int) := by rw [Int32.lt_iff_toInt_lt, nI_toInt h]
theorem q_ge {x : Int32} {n : Nat} (h : n < 2 ^ 31) : nI n ≤ x ↔ (n : Int) ≤ x.toInt := by rw [Int32.le_iff_toInt_le, nI_toInt h]
theorem q_gt {x : Int32} {n : Nat} (h : n < 2 ^ 31) : nI n < x ↔ (n : Int) < x.toInt := by rw [Int32.lt_iff_toInt_lt, nI_toInt h]
theorem q_le {x : Int32} {n : Nat} (h : n < 2 ^ 31) : x ≤ nI n ↔ x.toInt ≤ (n : Int) := by rw [Int32.le_iff_toInt_le, nI_toInt h]
theorem q_eq {x : Int32} {n : Nat} (h : n < 2 ^ 31) : x = nI n ↔ x.toInt = (n : Int) := by rw [← Int32.toInt_inj, nI_toInt h]
theorem z_eq {x : Int32} : x = 0 ↔ x.toInt = 0 := by rw [← Int32.toInt_inj, Int32.toInt_zero]
theorem z_lt {x : Int32} : x < 0 ↔ x.toInt < 0 := by rw [Int32.lt_iff_toInt_lt, Int32.toInt_zero]
theorem z_ge {x : Int32} : 0 ≤ x ↔ 0 ≤ x.toInt := by rw [Int32.le_iff_toInt_le, Int32.toInt_zero]
theorem z_gt {x : Int32} : 0 < x ↔ 0 < x.toInt := by rw [Int32.lt_iff_toInt_lt, Int32.toInt_zero]
theorem z_le {x : Int32} : x ≤ 0 ↔ x.toInt ≤ 0 := by rw [Int32.le_iff_toInt_le, Int32.toInt_zero]
theorem ixi {x : Int32} {n : Nat} (h0 : 0 ≤ x.toInt) (h1 : x.toInt < (n : Int)) (hn : n < 2 ^ 31 := by decide) : ∃ j : Nat, j < n ∧ x = nI j := vp_in_of (vp_in_iff.mpr ⟨h0, h1⟩) hn
theorem nI_z (j : Nat) : nI 0 + nI j = nI j := by rw [nI_add, Nat.zero_add]
theorem neg1_ne {n : Nat} (h : n < 2 ^ 31) : ¬ nI n = (-1 : Int32) := by
  rw [← Int32.toInt_inj, nI_toInt h]
  have : ((-1 : Int32)).toInt = -1 := by decide
  omega
theorem bool0 : vp_nar .boolean 0 = 0 := by decide
