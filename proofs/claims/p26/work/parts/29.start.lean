theorem lc0 {L i : Nat} (hL : L < 2 ^ 20) (hi : i < 2 ^ 20) : nI L - nI 6 < nI i ↔ L < i + 6 := by
  rw [Int32.lt_iff_toInt_lt, pk_sub_toInt (by omega) (by decide), nI_toInt (by omega)]
  omega
theorem blC : Blind NestC := fun U U' h hU => ⟨va_Nw.same rfl h hU.1, va_Nw.same rfl h hU.2.1, va_Nw.same rfl h hU.2.2.1, va_Nw.same rfl h hU.2.2.2.1, va_Nw.same rfl h hU.2.2.2.2.1, va_Nw.same rfl h hU.2.2.2.2.2.1, va_Nw.same rfl h hU.2.2.2.2.2.2.1, va_Nw.same rfl h hU.2.2.2.2.2.2.2⟩
theorem inv0C : InvC MC0 := ⟨Or.inl (by decide), Or.inr (by decide), Or.inl rfl⟩
theorem z_0 : (0 : Int32).toInt = 0 := by decide
theorem fz_c : FdC MC0 1 = mset zr0 0 6 1 := funext (fun a => funext (fun i => by
  by_cases c : a = 0
  · rw [c]
    by_cases d : i = 6
    · rw [d, mset_eq, fdc_6]
      rfl
    · rw [mset_ne (by first | exact nz1 (by decide) | exact nz2 (by decide) | exact nz1 (nzA hc0 (by decide)) | exact nz1 (nzE (by decide)) | exact nz1 (nzB hc0 (by decide)) | exact nz1 (nzC hc0 (by decide)) | exact nz1 (nzD hc0 (by decide)) | exact nz1 (nzF (by decide)) | exact nz1 (nzG (by decide)) | omega)]
      by_cases e : i = 5
      · rw [e, fdc_n]
        rfl
      · exact fdc_0o e d
  · have z : z0 (FdC MC0 1) = zr0 := z0_cl (fun j _ => z_0)
    have y : z0 (FdC MC0 1) a i = FdC MC0 1 a i := if_neg c
    rw [mset_ne (by first | exact nz1 (by decide) | exact nz2 (by decide) | exact nz1 (nzA hc0 (by decide)) | exact nz1 (nzE (by decide)) | exact nz1 (nzB hc0 (by decide)) | exact nz1 (nzC hc0 (by decide)) | exact nz1 (nzD hc0 (by decide)) | exact nz1 (nzF (by decide)) | exact nz1 (nzG (by decide)) | omega), ← y, z]))
theorem fz_r : FdR MM0 1 = mset zr0 0 6 1 := by
  have r : ∀ j, j < 200 → MM0 1 j = 0 := fun j hj => by
    show upd (fun _ => 0) 201 (nI 1) j = 0
    rw [upd_o (by omega)]
  have h := fdr_no (M := MM0) (N := MM0) (fun j hj => by rw [r j (by omega)]; exact z_0) ⟨rfl, rfl⟩
  rw [h]
  refine funext (fun a => funext (fun i => ?_))
  unfold cpS
  by_cases c : a = 0
  · rw [if_pos c, c]
    by_cases d : i = 6
    · rw [d, mset_eq, fdr_6]
      show upd (fun _ => 0) 201 (nI 1) 201 = 1
      rw [upd_e]
      decide
    · rw [mset_ne (by first | exact nz1 (by decide) | exact nz2 (by decide) | exact nz1 (nzA hc0 (by decide)) | exact nz1 (nzE (by decide)) | exact nz1 (nzB hc0 (by decide)) | exact nz1 (nzC hc0 (by decide)) | exact nz1 (nzD hc0 (by decide)) | exact nz1 (nzF (by decide)) | exact nz1 (nzG (by decide)) | omega)]
      by_cases e : i = 5
      · rw [e, fdr_n]
        show upd (fun _ => 0) 201 (nI 1) 200 = 0
        rw [upd_o (by omega)]
      · unfold FdR mskF
        rw [if_pos rfl, if_neg (by omega)]
        rfl
  · rw [if_neg c, mset_ne (by first | exact nz1 (by decide) | exact nz2 (by decide) | exact nz1 (nzA hc0 (by decide)) | exact nz1 (nzE (by decide)) | exact nz1 (nzB hc0 (by decide)) | exact nz1 (nzC hc0 (by decide)) | exact nz1 (nzD hc0 (by decide)) | exact nz1 (nzF (by decide)) | exact nz1 (nzG (by decide)) | omega)]
theorem fz_g : GdF (mset zr0 0 6 1) := by
  have e : ∀ a j, ¬ a = 0 → mset zr0 0 6 1 a j = 0 := fun a j ha => by
    rw [mset_ne (by first | exact nz1 (by decide) | exact nz2 (by decide) | exact nz1 (nzA hc0 (by decide)) | exact nz1 (nzE (by decide)) | exact nz1 (nzB hc0 (by decide)) | exact nz1 (nzC hc0 (by decide)) | exact nz1 (nzD hc0 (by decide)) | exact nz1 (nzF (by decide)) | exact nz1 (nzG (by decide)) | omega)]
    rfl
  have nt : ∀ i, ¬ tld (mset zr0 0 6 1) i := fun i hi => by
    unfold tld at hi
    rw [e 4 i (by omega)] at hi
    exact hi z_0
  refine ⟨⟨fun i hi => by rw [e 4 i (by omega)]; exact Or.inl z_0, fun i hi => by rw [e 5 i (by omega)]; exact Or.inl z_0, fun i j hi hj ti => absurd ti (nt i)⟩, ⟨by rw [mset_eq]; decide, by rw [mset_ne (by first | exact nz1 (by decide) | exact nz2 (by decide) | exact nz1 (nzA hc0 (by decide)) | exact nz1 (nzE (by decide)) | exact nz1 (nzB hc0 (by decide)) | exact nz1 (nzC hc0 (by decide)) | exact nz1 (nzD hc0 (by decide)) | exact nz1 (nzF (by decide)) | exact nz1 (nzG (by decide)) | omega)]; decide⟩, fun i hi ti => absurd ti (nt i)⟩
theorem ff_0 : FF MC0 MM0 := by
  refine ⟨⟨fz_c.trans fz_r.symm, by rw [fz_r]; exact fz_g⟩, ⟨rfl, fun z => absurd (by decide) z⟩, by decide, 0, fun _ => (0, 0), fun _ => (0, 0, 0, 0), fun c hc => ?_, ⟨⟨z_0, by decide⟩, 0, by decide, fun j hj => absurd hj (Nat.not_lt_zero _), fun r hr => absurd hr (Nat.not_lt_zero _)⟩, fun r hr => absurd hr (Nat.not_lt_zero _)⟩
  have e : c = 44 := by
    have z : (MC0 0 10).toInt = 44 := by decide
    omega
  rw [e]
  exact ⟨⟨⟨z_0, by decide, Int.le_refl _, by decide⟩, fun j hj => absurd hj (by rw [show (MC0 44 7).toInt = 0 from z_0]; omega), fun r hr => absurd hr (Nat.not_lt_zero _)⟩, fun _ k hk => absurd hk (by rw [show (MC0 44 7).toInt = 0 from z_0]; omega)⟩
theorem pp_0 : PP MC0 MM0 := ⟨0, by decide, rfl, fun p hp => by rcases (show p = 0 ∨ p = 1 ∨ p = 2 ∨ p = 3 ∨ p = 4 ∨ p = 5 ∨ p = 6 ∨ p = 7 by omega) with rfl | rfl | rfl | rfl | rfl | rfl | rfl | rfl <;> decide⟩
theorem st0 {f : Nat → Int32} (h : ∀ j, j < 40 → f j = 0) : ST f := fun j hj h1 => absurd h1 (by rw [h j hj]; decide)
theorem inv0M : InvM MM0 := ⟨st0 (fun j hj => by show upd (fun _ => 0) 201 (nI 1) j = 0; rw [upd, if_neg (by omega)]), st0 (fun _ _ => rfl), by decide, by decide, fun r hr => absurd hr (by show ¬ r < ix (0 : Int32); rw [show ix (0 : Int32) = 0 from (by decide)]; omega)⟩
theorem arr_known {args : Array Value} {s : State} (ty : ArrayType) (harr : (Cond.arrayClass (newarray.typeOf ty)).before args s = true) : ∃ cA : ClassId, ArrOfT s cA (newarray.typeOf ty) ∧ s.vm.findClass ("[" ++ (newarray.typeOf ty).toString) = some cA := by
  obtain ⟨cA, kA, comp, h1, h2, h3⟩ := Cond.arrayClass_spec harr
  exact ⟨cA, fun n z => ⟨fun k h => (by cases h), kA, h2, comp, h3⟩, h1⟩

set_option maxHeartbeats 4000000 in
theorem law_out {X : CU} {cI cZ cB : ClassId} {aC aM : Nat → Nat} {b L : Nat} {xs : Nat → Int32} (hX : OkU X code RL 4 cI cZ cB 300 600000 7302250) (hSc : ScU X b L xs) (hL : L ≤ 3072) {i : Nat} (hi : i ≤ 6000) (hl : L < i + 6) (he : ∀ (ws : va_W) (lv : List (Nat × Value)), VU X ws lv [.int 1] 1135 99 12419) {MC MM : Mem} : VU X (wl 60 aC (glC aC cI cZ cB) MC ++ (wl 39 aM (glM aM cI cZ cB) MM ++ [])) [(0, .ref b), (1, .ref (aC 0)), (2, .ref (aM 0)), (3, .int (nI i))] [] 18 99 12419 := by
  refine u_iload (kk := 3) hX dL_law_18 rfl rfl ?_
  refine u_aload (kk := 0) hX dL_law_19 rfl rfl ?_
  refine u_slen hX hSc dL_law_20 ?_
  refine u_bipush (v := nI 6) hX dL_law_21 (by decide) ?_
  refine u_isub hX dL_law_23 ?_
  refine u_icmp_gt (tgt := 1134) hX dL_law_24 (by decide) (fun _ => ?_) (fun c => absurd ((lc0 (by omega) (by omega)).mpr hl) c)
  refine u_iconst (v := 1) hX dL_law_1134 (by decide) ?_
  exact he _ _
set_option maxHeartbeats 4000000 in
theorem law_loop {X : CU} {cI cZ cB : ClassId} {aC aM : Nat → Nat} {b L : Nat} {xs : Nat → Int32} (hX : OkU X code RL 4 cI cZ cB 300 600000 7302250) (hSc : ScU X b L xs) (hL : L ≤ 3072) (he : ∀ (ws : va_W) (lv : List (Nat × Value)), VU X ws lv [.int 1] 1135 99 12419) : ∀ (n i : Nat) (MC MM : Mem), L < i + 6 + 6 * n → i ≤ L + 6 → InvC MC → InvM MM → Rel MC MM → VU X (wl 60 aC (glC aC cI cZ cB) MC ++ (wl 39 aM (glM aM cI cZ cB) MM ++ [])) [(0, .ref b), (1, .ref (aC 0)), (2, .ref (aM 0)), (3, .int (nI i))] [] 18 99 12419
  | 0, i, MC, MM, h0, hi, hC, hM, hR => law_out (i := i) hX hSc hL (by omega) (by omega) he
  | n + 1, i, MC, MM, h0, hi, hC, hM, hR => by
    rcases Nat.lt_or_ge L (i + 6) with h6 | h6
    · exact law_out (i := i) hX hSc hL (by omega) h6 he
    · refine u_iload (kk := 3) hX dL_law_18 rfl rfl ?_
      refine u_aload (kk := 0) hX dL_law_19 rfl rfl ?_
      refine u_slen hX hSc dL_law_20 ?_
      refine u_bipush (v := nI 6) hX dL_law_21 (by decide) ?_
      refine u_isub hX dL_law_23 ?_
      refine u_icmp_gt (tgt := 1134) hX dL_law_24 (by decide) (fun c => absurd ((lc0 (by omega) (by omega)).mp c) (by omega)) (fun _ => ?_)
      refine law_sw (i := i) hX hSc hL h6 hC hM hR (fun MC2 MM2 hC2 hM2 hR2 => ?_)
      refine u_iinc (kk := 3) (v := nI (i + 6)) (lv' := [(0, .ref b), (1, .ref (aC 0)), (2, .ref (aM 0)), (3, .int (nI (i + 6)))]) hX dL_law_1128 (by rw [show Int32.ofInt 6 = nI 6 from by decide]; exact nI_add i 6) (by decide) rfl rfl ?_
      refine u_goto (tgt := 18) hX dL_law_1131 (by decide) ?_
      exact law_loop hX hSc hL he n (i + 6) MC2 MM2 (by omega) (by omega) hC2 hM2 hR2
set_option maxHeartbeats 8000000 in
/-- THE LAW, from its entry -/
theorem whole_start {p : Program} {e : Env} {s : State} {m : MethodId} {below : List Frame} {meth : Method} {c : Code} (l : Launch) (hflags : l.flags = flags0) {b L : Nat} {xs : Nat → Int32} (hL : L ≤ 3072) (C0 : lw_At p s m meth c b L xs) : W p l e room_1 s m #[Value.ref b] below meth c s.heap [] 0 0 (lw_Z below #[Value.ref b] s) (entryFrame m ([Value.ref b] : List Value).toArray 4) := by
  obtain ⟨hx, hb, hr, hml, hown, hts, hXs, hbl, hlocks, hgv⟩ := id C0
  have htU : ∀ w ∈ UL, w.before #[Value.ref b] s = true := fun w hw => hts w (ul_tbl hw)
  obtain ⟨c0, iS0, hKn0⟩ := u_known (C := RX0) (T := TX0) (N := 5) (n := 5) htU iulX0 (htU _ (ul_1 (k := 192) (by decide +kernel) rfl))
  obtain ⟨c1, iS1, hKn1⟩ := u_known (C := RX1) (T := TX1) (N := 4) (n := 4) htU iulX1 (htU _ (ul_1 (k := 145) (by decide +kernel) rfl))
  obtain ⟨c2, iS2, hKn2⟩ := u_known (C := RX2) (T := TX2) (N := 7) (n := 7) htU iulX2 (htU _ (ul_1 (k := 24) (by decide +kernel) rfl))
  obtain ⟨c3, iS3, hKn3⟩ := u_known (C := RX3) (T := TX3) (N := 10) (n := 10) htU iulX3 (htU _ (ul_1 (k := 214) (by decide +kernel) rfl))
  obtain ⟨c4, iS4, hKn4⟩ := u_known (C := RX4) (T := TX4) (N := 6) (n := 6) htU iulX4 (htU _ (ul_1 (k := 164) (by decide +kernel) rfl))
  obtain ⟨c5, iS5, hKn5⟩ := u_known (C := RX5) (T := TX5) (N := 3) (n := 3) htU iulX5 (htU _ (ul_1 (k := 102) (by decide +kernel) rfl))
  obtain ⟨c7, iS7, hKn7⟩ := u_known (C := RX7) (T := TX7) (N := 5) (n := 5) htU iulX7 (htU _ (ul_1 (k := 74) (by decide +kernel) rfl))
  obtain ⟨c8, iS8, hKn8⟩ := u_known (C := RX8) (T := TX8) (N := 6) (n := 6) htU iulX8 (htU _ (ul_1 (k := 120) (by decide +kernel) rfl))
  obtain ⟨c9, iS9, hKn9⟩ := u_known (C := RX9) (T := TX9) (N := 13) (n := 13) htU iulX9 (htU _ (ul_1 (k := 16) (by decide +kernel) rfl))
  obtain ⟨c10, iS10, hKn10⟩ := u_known (C := RX10) (T := TX10) (N := 55) (n := 55) htU iulX10 (htU _ (ul_4 (k := 169) (by decide +kernel) rfl))
  obtain ⟨cI, hAcI, hBcI⟩ := arr_known .int (htU _ (ul_1 (k := 71) (by decide +kernel) rfl))
  obtain ⟨cZ, hAcZ, hBcZ⟩ := arr_known .boolean (htU _ (ul_1 (k := 72) (by decide +kernel) rfl))
  obtain ⟨cB, hAcB, hBcB⟩ := arr_known .byte (htU _ (ul_5 (k := 100) (by decide +kernel) rfl))
  obtain ⟨dC, dI, hKc⟩ : ∃ (dC : Nat → ClassId) (dI : Nat → Nat → Nat), ∀ (k : Nat) (q : vw_C), cls11[k]? = some q → u_Kn s q.1 q.2.1 q.2.2 (dC k) (dI k) := by
    refine ⟨fun k => if k = 0 then c0 else if k = 1 then c1 else if k = 2 then c2 else if k = 3 then c3 else if k = 4 then c4 else if k = 5 then c5 else if k = 6 then c5 else if k = 7 then c7 else if k = 8 then c8 else if k = 9 then c9 else c10, fun k => if k = 0 then iS0 else if k = 1 then iS1 else if k = 2 then iS2 else if k = 3 then iS3 else if k = 4 then iS4 else if k = 5 then iS5 else if k = 6 then iS5 else if k = 7 then iS7 else if k = 8 then iS8 else if k = 9 then iS9 else iS10, ?_⟩
    intro k q hq
    match k, hq with
    | 0, hq => cases hq; exact hKn0
    | 1, hq => cases hq; exact hKn1
    | 2, hq => cases hq; exact hKn2
    | 3, hq => cases hq; exact hKn3
    | 4, hq => cases hq; exact hKn4
    | 5, hq => cases hq; exact hKn5
    | 6, hq => cases hq; exact hKn5
    | 7, hq => cases hq; exact hKn7
    | 8, hq => cases hq; exact hKn8
    | 9, hq => cases hq; exact hKn9
    | 10, hq => cases hq; exact hKn10
    | k + 11, hq => simp [cls11] at hq
  have hK : va_K (dC, dI) cls11 (tyl cI cZ cB) s := ⟨hKc, fun k q hq => by
    match k, hq with
    | 0, hq => cases hq; exact ⟨hAcI, hBcI⟩
    | 1, hq => cases hq; exact ⟨hAcZ, hBcZ⟩
    | 2, hq => cases hq; exact ⟨hAcB, hBcB⟩
    | k + 3, hq => simp [tyl] at hq⟩
  have hnest : ∀ U : State, s.WarmedH U.vm → NestC U := fun U hW => ⟨va_Nw.warmM hW (va_Nw.of rfl (hts _ (List.mem_append_right _ (List.mem_of_getElem? (i := 25) (by decide +kernel))))), va_Nw.warmM hW (va_Nw.of rfl (hts _ (List.mem_append_right _ (List.mem_of_getElem? (i := 75) (by decide +kernel))))), va_Nw.warmM hW (va_Nw.of rfl (hts _ (List.mem_append_right _ (List.mem_of_getElem? (i := 103) (by decide +kernel))))), va_Nw.warmM hW (va_Nw.of rfl (hts _ (List.mem_append_right _ (List.mem_of_getElem? (i := 121) (by decide +kernel))))), va_Nw.warmM hW (va_Nw.of rfl (hts _ (List.mem_append_right _ (List.mem_of_getElem? (i := 146) (by decide +kernel))))), va_Nw.warmM hW (va_Nw.of rfl (hts _ (List.mem_append_right _ (List.mem_of_getElem? (i := 165) (by decide +kernel))))), va_Nw.warmM hW (va_Nw.of rfl (hts _ (List.mem_append_right _ (List.mem_of_getElem? (i := 193) (by decide +kernel))))), va_Nw.warmM hW (va_Nw.of rfl (hts _ (List.mem_append_right _ (List.mem_of_getElem? (i := 215) (by decide +kernel)))))⟩
  have hl := lv_entry ([.ref b]) (n := 4) (Nat.le_of_ble_eq_true rfl)
  rw [lg_entry_eq]
  generalize (lg_sl ([.ref b]) ++ List.replicate (4 - (lg_sl ([.ref b])).length) Slot.unset).toArray = ls at hl ⊢
  have hl : lv_has ls 4 [(0, .ref b)] := hl
  have hP : va_P (dC, dI) cls11 [] s.heap := fun k q h => by simp at h
  have hD : va_D (fun q : Nat => s.heap.size ≤ q) [] := ⟨fun i j p q h => by simp at h, fun k q h => by simp at h⟩
  obtain ⟨X, eX⟩ : ∃ X : CU, X = (p, l, e, room_1, s, m, #[Value.ref b], below, meth, c, lw_Z below #[Value.ref b] s, (fun q : Nat => s.heap.size ≤ q), (dC, dI), 4) := ⟨_, rfl⟩
  have hX : OkU X code RL 4 cI cZ cB 300 600000 7302250 := by
    subst eX
    exact ⟨hx, hb, hml, hown, htU, hK, rfl, ⟨Nat.le_of_ble_eq_true rfl, Nat.le_of_ble_eq_true rfl⟩, ⟨Nat.le_of_ble_eq_true rfl, Nat.le_of_ble_eq_true rfl⟩, fun _ h => h, hlocks⟩
  have hSc : ScU X b L xs := by
    subst eX
    exact ⟨hXs, hbl, Nat.not_le.mpr hbl⟩
  have hE : (match X with | (_, _, _, _, s, _) => ∀ U : State, s.WarmedH U.vm → NestC U) := by
    subst eX
    exact hnest
  have he : ∀ (ws : va_W) (lv : List (Nat × Value)), VU X ws lv [.int 1] 1135 99 12419 := by
    subst eX
    intro ws lv H locs ls hP hD hS hl
    refine va_forget (fun q hq => hS.2.2 q hq) ?_
    refine W.widen (k := 600000) (n := 7302250) (Nat.le_of_ble_eq_true rfl) (Nat.le_of_ble_eq_true rfl) ?_
    exact lw_ret hx hb hr hlocks dL_law_1135
  have K : VU X [] [(0, .ref b)] [] 0 0 0 := by
    refine u_new (ci := 9) (fs := [.null, .null, .null, .null, .null, .null, .null, .null, .null, .null, .null, .null, .int 0]) hX rfl (ul_1 (k := 15) (by decide +kernel) rfl) (ul_1 (k := 16) (by decide +kernel) rfl) (ul_1 (k := 1) (by decide +kernel) rfl) tyX9 tyX9_ok (fun j hj => by rcases (show j = 0 ∨ j = 1 ∨ j = 2 ∨ j = 3 ∨ j = 4 ∨ j = 5 ∨ j = 6 ∨ j = 7 ∨ j = 8 ∨ j = 9 ∨ j = 10 ∨ j = 11 ∨ j = 12 by omega) with rfl | rfl | rfl | rfl | rfl | rfl | rfl | rfl | rfl | rfl | rfl | rfl | rfl <;> rfl) (Nat.le_of_ble_eq_true rfl) (Nat.le_of_ble_eq_true rfl) dL_law_0 (fun q9 => ?_)
    refine u_dup hX dL_law_3 rfl ?_
    refine u_callI hX c_X9_init blC hE lL_9 (ul_1 (k := 18) (by decide +kernel) rfl) (ul_1 (k := 1) (by decide +kernel) rfl) (ul_1 (k := 19) (by decide +kernel) rfl) rfl (by decide +kernel) (by decide) (Nat.le_of_ble_eq_true rfl) (Nat.le_of_ble_eq_true rfl) (Nat.le_of_ble_eq_true rfl) dL_law_4 (fun aC haC => ?_)
    subst haC
    refine u_astore (lv' := [(0, .ref b), (1, .ref (aC 0))]) hX dL_law_7 rfl (by decide) rfl ?_
    refine u_new (ci := 10) (fs := [.null, .null, .null, .null, .int 0, .null, .int 0, .int 0, .int 0, .int 0, .int 0, .int 0, .int 0, .int 0, .int 0, .int 0, .null, .null, .null, .null, .null, .null, .null, .null, .null, .null, .null, .null, .null, .null, .null, .null, .null, .int 0, .int 0, .int 0, .null, .null, .null, .null, .null, .null, .null, .null, .null, .null, .null, .null, .null, .int 0, .int 0, .null, .null, .null, .int 0]) hX rfl (ul_4 (k := 168) (by decide +kernel) rfl) (ul_4 (k := 169) (by decide +kernel) rfl) (ul_1 (k := 10) (by decide +kernel) rfl) tyX10 tyX10_ok (fun j hj => by rcases (show j = 0 ∨ j = 1 ∨ j = 2 ∨ j = 3 ∨ j = 4 ∨ j = 5 ∨ j = 6 ∨ j = 7 ∨ j = 8 ∨ j = 9 ∨ j = 10 ∨ j = 11 ∨ j = 12 ∨ j = 13 ∨ j = 14 ∨ j = 15 ∨ j = 16 ∨ j = 17 ∨ j = 18 ∨ j = 19 ∨ j = 20 ∨ j = 21 ∨ j = 22 ∨ j = 23 ∨ j = 24 ∨ j = 25 ∨ j = 26 ∨ j = 27 ∨ j = 28 ∨ j = 29 ∨ j = 30 ∨ j = 31 ∨ j = 32 ∨ j = 33 ∨ j = 34 ∨ j = 35 ∨ j = 36 ∨ j = 37 ∨ j = 38 ∨ j = 39 ∨ j = 40 ∨ j = 41 ∨ j = 42 ∨ j = 43 ∨ j = 44 ∨ j = 45 ∨ j = 46 ∨ j = 47 ∨ j = 48 ∨ j = 49 ∨ j = 50 ∨ j = 51 ∨ j = 52 ∨ j = 53 ∨ j = 54 by omega) with rfl | rfl | rfl | rfl | rfl | rfl | rfl | rfl | rfl | rfl | rfl | rfl | rfl | rfl | rfl | rfl | rfl | rfl | rfl | rfl | rfl | rfl | rfl | rfl | rfl | rfl | rfl | rfl | rfl | rfl | rfl | rfl | rfl | rfl | rfl | rfl | rfl | rfl | rfl | rfl | rfl | rfl | rfl | rfl | rfl | rfl | rfl | rfl | rfl | rfl | rfl | rfl | rfl | rfl | rfl <;> rfl) (Nat.le_of_ble_eq_true rfl) (Nat.le_of_ble_eq_true rfl) dL_law_8 (fun q10 => ?_)
    refine u_dup hX dL_law_11 rfl ?_
    refine u_callI hX c_X10_init blT exT lL_12 (ul_4 (k := 171) (by decide +kernel) rfl) (ul_1 (k := 10) (by decide +kernel) rfl) (ul_4 (k := 172) (by decide +kernel) rfl) rfl (by decide +kernel) (by decide) (Nat.le_of_ble_eq_true rfl) (Nat.le_of_ble_eq_true rfl) (Nat.le_of_ble_eq_true rfl) dL_law_12 (fun aM haM => ?_)
    subst haM
    refine u_astore (lv' := [(0, .ref b), (1, .ref (aC 0)), (2, .ref (aM 0))]) hX dL_law_15 rfl (by decide) rfl ?_
    refine u_iconst (v := nI 0) hX dL_law_16 (by decide) ?_
    refine u_istore (lv' := [(0, .ref b), (1, .ref (aC 0)), (2, .ref (aM 0)), (3, .int (nI 0))]) hX dL_law_17 rfl (by decide) rfl ?_
    refine u_wd (show _ = (wl 60 aC (glC aC cI cZ cB) MC0 ++ (wl 39 aM (glM aM cI cZ cB) MM0 ++ [])) from by rw [List.append_nil]; rfl) ?_
    exact law_loop hX hSc hL he (L / 6) 0 MC0 MM0 (by omega) (by omega) inv0C inv0M ⟨rfl, pp_0, (fun j hj => absurd hj (by show ¬ (j : Int) < (0 : Int32).toInt; rw [show (0 : Int32).toInt = 0 from rfl]; omega)), ff_0⟩
  subst eX
  exact K s.heap [] ls hP hD va_S.rf hl
