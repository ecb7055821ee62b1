def Rel (MC MM : Mem) : Prop := MC 19 1 = MM 0 6 ∧ PP MC MM ∧ TT MC MM ∧ FF MC MM
theorem undo_eq {x y r1 r2 : Int32} (h : x = 0 ∨ x = 1) (e : x = y) (h1 : r1 = x) (h2 : r2 = (if y.toInt = 0 then nI 0 else nI 1)) : r1 = r2 := by
  rw [h1, h2, ← e]
  rcases h with z | z <;> rw [z] <;> decide
theorem night_eq {x y a b v : Int32} (e : x = y) (h1 : a.toInt = (if 1 ≤ v.toInt ∧ v.toInt ≤ 60 then max x.toInt (min (x.toInt + v.toInt) 9999) else x.toInt)) (h2 : b.toInt = (if 1 ≤ v.toInt ∧ v.toInt ≤ 60 then max y.toInt (min (y.toInt + v.toInt) 9999) else y.toInt)) : a = b := t_of (by rw [h1, h2, e])
theorem undo_n {k k2 x y u w a b : Int32} (e1 : k = k2) (e2 : x = y) (e3 : u = w) (h1 : a = (if k.toInt = 0 then x else u)) (h2 : b = (if k2.toInt = 0 then y else w)) : a = b := by rw [h1, h2, e1, e2, e3]
set_option maxHeartbeats 4000000 in
theorem law_c0 {X : CU} {cI cZ cB : ClassId} {aC aM : Nat → Nat} {b L : Nat} {xs : Nat → Int32} (hX : OkU X code RL 4 cI cZ cB 300 600000 7302250) (hSc : ScU X b L xs) (hL : L ≤ 3072) {i : Nat} (hi : i + 6 ≤ L) {MC MM : Mem} (hC : InvC MC) (hM : InvM MM) (hR : Rel MC MM) (hk : ∀ MC' MM' : Mem, InvC MC' → InvM MM' → Rel MC' MM' → VU X (wl 60 aC (glC aC cI cZ cB) MC' ++ (wl 39 aM (glM aM cI cZ cB) MM' ++ [])) [(0, .ref b), (1, .ref (aC 0)), (2, .ref (aM 0)), (3, .int (nI i))] [] 1128 99 12419) : VU X (wl 60 aC (glC aC cI cZ cB) MC ++ (wl 39 aM (glM aM cI cZ cB) MM ++ [])) [(0, .ref b), (1, .ref (aC 0)), (2, .ref (aM 0)), (3, .int (nI i))] [] 176 99 12419 := by
  have hFF : FF MC MM := hR.2.2.2
  obtain ⟨FR, FF0, Ftb, hLc, hLr, hLq⟩ := hFF.2.2.2
  refine u_aload (kk := 1) hX dL_law_176 rfl rfl ?_
  refine u_aload (kk := 0) hX dL_law_177 rfl rfl ?_
  refine u_iload (kk := 3) hX dL_law_178 rfl rfl ?_
  refine u_iconst (v := nI 1) hX dL_law_179 (by decide) ?_
  refine u_iadd hX dL_law_180 ?_
  refine u_top (y := nI (i + 1)) (nI_add _ _) ?_
  refine u_sld hX hSc (by omega) (by omega) dL_law_181 ?_
  refine u_aload (kk := 0) hX dL_law_182 rfl rfl ?_
  refine u_iload (kk := 3) hX dL_law_183 rfl rfl ?_
  refine u_iconst (v := nI 2) hX dL_law_184 (by decide) ?_
  refine u_iadd hX dL_law_185 ?_
  refine u_top (y := nI (i + 2)) (nI_add _ _) ?_
  refine u_sld hX hSc (by omega) (by omega) dL_law_186 ?_
  refine u_aload (kk := 0) hX dL_law_187 rfl rfl ?_
  refine u_iload (kk := 3) hX dL_law_188 rfl rfl ?_
  refine u_iconst (v := nI 3) hX dL_law_189 (by decide) ?_
  refine u_iadd hX dL_law_190 ?_
  refine u_top (y := nI (i + 3)) (nI_add _ _) ?_
  refine u_sld hX hSc (by omega) (by omega) dL_law_191 ?_
  refine u_aload (kk := 0) hX dL_law_192 rfl rfl ?_
  refine u_iload (kk := 3) hX dL_law_193 rfl rfl ?_
  refine u_iconst (v := nI 4) hX dL_law_194 (by decide) ?_
  refine u_iadd hX dL_law_195 ?_
  refine u_top (y := nI (i + 4)) (nI_add _ _) ?_
  refine u_sld hX hSc (by omega) (by omega) dL_law_196 ?_
  obtain ⟨p1, e1, h1⟩ := o9_X9_stone MC (xs (i + 1)) (xs (i + 2)) (xs (i + 3)) (xs (i + 4))
  refine u_wd (List.nil_append _).symm ?_
  refine u_call hX [] (t_X9_stone (xs (i + 1)) (xs (i + 2)) (xs (i + 3)) (xs (i + 4)) MC p1 e1) mX9_stone lL_13 (by decide) (by decide) oC0 rfl rfl rfl rfl ⟨Nat.le_of_ble_eq_true rfl, Nat.le_of_ble_eq_true rfl⟩ rfl (Nat.le_of_ble_eq_true rfl) dL_law_197 (fun r1 MC1 q1 => ?_)
  refine u_wd (List.nil_append _) ?_
  rw [← q1] at h1
  have hC1 : InvC MC1 := invC_fr hC (h1.2.1 0 10 (by omega)) (h1.2.1 0 11 (by omega)) (h1.2.1 0 12 (by omega))
  refine u_pop hX dL_law_200 rfl ?_
  refine u_aload (kk := 2) hX dL_law_201 rfl rfl ?_
  refine u_aload (kk := 0) hX dL_law_202 rfl rfl ?_
  refine u_iload (kk := 3) hX dL_law_203 rfl rfl ?_
  refine u_iconst (v := nI 1) hX dL_law_204 (by decide) ?_
  refine u_iadd hX dL_law_205 ?_
  refine u_top (y := nI (i + 1)) (nI_add _ _) ?_
  refine u_sld hX hSc (by omega) (by omega) dL_law_206 ?_
  refine u_aload (kk := 0) hX dL_law_207 rfl rfl ?_
  refine u_iload (kk := 3) hX dL_law_208 rfl rfl ?_
  refine u_iconst (v := nI 2) hX dL_law_209 (by decide) ?_
  refine u_iadd hX dL_law_210 ?_
  refine u_top (y := nI (i + 2)) (nI_add _ _) ?_
  refine u_sld hX hSc (by omega) (by omega) dL_law_211 ?_
  refine u_aload (kk := 0) hX dL_law_212 rfl rfl ?_
  refine u_iload (kk := 3) hX dL_law_213 rfl rfl ?_
  refine u_iconst (v := nI 3) hX dL_law_214 (by decide) ?_
  refine u_iadd hX dL_law_215 ?_
  refine u_top (y := nI (i + 3)) (nI_add _ _) ?_
  refine u_sld hX hSc (by omega) (by omega) dL_law_216 ?_
  refine u_aload (kk := 0) hX dL_law_217 rfl rfl ?_
  refine u_iload (kk := 3) hX dL_law_218 rfl rfl ?_
  refine u_iconst (v := nI 4) hX dL_law_219 (by decide) ?_
  refine u_iadd hX dL_law_220 ?_
  refine u_top (y := nI (i + 4)) (nI_add _ _) ?_
  refine u_sld hX hSc (by omega) (by omega) dL_law_221 ?_
  obtain ⟨p2, e2, h2⟩ := o9_X10_stone MM (xs (i + 1)) (xs (i + 2)) (xs (i + 3)) (xs (i + 4)) hFF.1.2
  refine u_call hX _ (t_X10_stone (xs (i + 1)) (xs (i + 2)) (xs (i + 3)) (xs (i + 4)) MM p2 e2) mX10_stone lL_17 (by decide) (by decide) oM0 rfl rfl rfl rfl ⟨Nat.le_of_ble_eq_true rfl, Nat.le_of_ble_eq_true rfl⟩ rfl (Nat.le_of_ble_eq_true rfl) dL_law_222 (fun r2 MM1 q2 => ?_)
  rw [← q2] at h2
  have hM1 : InvM MM1 := ⟨h2.2.2.1, (st_copy hM.2.1 (fun j _ => h2.2.1 3 j (by omega))), (tp_fr hM.2.2.1 (h2.2.1 0 6 (by omega))), (gl_ext hM.2.2.2 (h2.2.1 0 15 (by omega)) (fun i => h2.2.1 12 i (by omega)) (fun i => h2.2.1 14 i (by omega)) (fun i => h2.2.1 15 i (by omega)) (fun i => h2.2.1 16 i (by omega)))⟩
  refine u_pop hX dL_law_225 rfl ?_
  refine u_goto (tgt := 1128) hX dL_law_226 (by decide) ?_
  exact hk MC1 MM1 hC1 hM1 ⟨((h1.2.1 19 1 (by omega)).trans (hR.1.trans (h2.2.1 0 6 (by omega)).symm)), (pp_fr hR.2.1 (h2.2.1 0 4 (by omega)) (fun p => h1.2.1 43 p (by omega))), (tt_fr hR.2.2.1 (Int.le_of_eq (congrArg Int32.toInt (h2.2.1 0 6 (by omega)))) (fun p => h1.2.1 20 p (by omega)) (fun p => h2.2.1 5 p (by omega))), (ff_mk hFF hC.1 (ff_st hFF (h1.2.2) (h2.2.2.2)).1 (fdc_fr (fun a i z1 z2 => h1.2.1 a i (by omega))) (fdr_cp (fun j hj => h2.2.1 3 j (by omega))) (h1.2.1 0 12 (by omega)) (h2.2.1 0 54 (by omega)) (h1.2.1 0 10 (by omega)) (h1.2.1 0 11 (by omega)) (fun c a i hc hq => h1.2.1 a i (by omega)) (fun a i hq => h2.2.1 a i (by omega)))⟩
set_option maxHeartbeats 4000000 in
theorem law_c1 {X : CU} {cI cZ cB : ClassId} {aC aM : Nat → Nat} {b L : Nat} {xs : Nat → Int32} (hX : OkU X code RL 4 cI cZ cB 300 600000 7302250) (hSc : ScU X b L xs) (hL : L ≤ 3072) {i : Nat} (hi : i + 6 ≤ L) {MC MM : Mem} (hC : InvC MC) (hM : InvM MM) (hR : Rel MC MM) (hk : ∀ MC' MM' : Mem, InvC MC' → InvM MM' → Rel MC' MM' → VU X (wl 60 aC (glC aC cI cZ cB) MC' ++ (wl 39 aM (glM aM cI cZ cB) MM' ++ [])) [(0, .ref b), (1, .ref (aC 0)), (2, .ref (aM 0)), (3, .int (nI i))] [] 1128 99 12419) : VU X (wl 60 aC (glC aC cI cZ cB) MC ++ (wl 39 aM (glM aM cI cZ cB) MM ++ [])) [(0, .ref b), (1, .ref (aC 0)), (2, .ref (aM 0)), (3, .int (nI i))] [] 229 99 12419 := by
  have hFF : FF MC MM := hR.2.2.2
  obtain ⟨FR, FF0, Ftb, hLc, hLr, hLq⟩ := hFF.2.2.2
  refine u_aload (kk := 1) hX dL_law_229 rfl rfl ?_
  refine u_aload (kk := 0) hX dL_law_230 rfl rfl ?_
  refine u_iload (kk := 3) hX dL_law_231 rfl rfl ?_
  refine u_iconst (v := nI 1) hX dL_law_232 (by decide) ?_
  refine u_iadd hX dL_law_233 ?_
  refine u_top (y := nI (i + 1)) (nI_add _ _) ?_
  refine u_sld hX hSc (by omega) (by omega) dL_law_234 ?_
  obtain ⟨p1, e1, h1⟩ := o9_X9_take MC (xs (i + 1))
  refine u_wd (List.nil_append _).symm ?_
  refine u_call hX [] (t_X9_take (xs (i + 1)) MC p1 e1) mX9_take lL_18 (by decide) (by decide) oC0 rfl rfl rfl rfl ⟨Nat.le_of_ble_eq_true rfl, Nat.le_of_ble_eq_true rfl⟩ rfl (Nat.le_of_ble_eq_true rfl) dL_law_235 (fun r1 MC1 q1 => ?_)
  refine u_wd (List.nil_append _) ?_
  rw [← q1] at h1
  have hC1 : InvC MC1 := invC_fr hC (h1.2.1 0 10 (by omega)) (h1.2.1 0 11 (by omega)) (h1.2.1 0 12 (by omega))
  refine u_pop hX dL_law_238 rfl ?_
  refine u_aload (kk := 2) hX dL_law_239 rfl rfl ?_
  refine u_aload (kk := 0) hX dL_law_240 rfl rfl ?_
  refine u_iload (kk := 3) hX dL_law_241 rfl rfl ?_
  refine u_iconst (v := nI 1) hX dL_law_242 (by decide) ?_
  refine u_iadd hX dL_law_243 ?_
  refine u_top (y := nI (i + 1)) (nI_add _ _) ?_
  refine u_sld hX hSc (by omega) (by omega) dL_law_244 ?_
  obtain ⟨p2, e2, h2⟩ := o9_X10_take MM (xs (i + 1)) hFF.1.2
  refine u_call hX _ (t_X10_take (xs (i + 1)) MM p2 e2) mX10_take lL_22 (by decide) (by decide) oM0 rfl rfl rfl rfl ⟨Nat.le_of_ble_eq_true rfl, Nat.le_of_ble_eq_true rfl⟩ rfl (Nat.le_of_ble_eq_true rfl) dL_law_245 (fun r2 MM1 q2 => ?_)
  rw [← q2] at h2
  have hM1 : InvM MM1 := ⟨h2.2.2.1, (st_copy hM.2.1 (fun j _ => h2.2.1 3 j (by omega))), (tp_fr hM.2.2.1 (h2.2.1 0 6 (by omega))), (gl_ext hM.2.2.2 (h2.2.1 0 15 (by omega)) (fun i => h2.2.1 12 i (by omega)) (fun i => h2.2.1 14 i (by omega)) (fun i => h2.2.1 15 i (by omega)) (fun i => h2.2.1 16 i (by omega)))⟩
  refine u_pop hX dL_law_248 rfl ?_
  refine u_goto (tgt := 1128) hX dL_law_249 (by decide) ?_
  exact hk MC1 MM1 hC1 hM1 ⟨((h1.2.1 19 1 (by omega)).trans (hR.1.trans (h2.2.1 0 6 (by omega)).symm)), (pp_fr hR.2.1 (h2.2.1 0 4 (by omega)) (fun p => h1.2.1 43 p (by omega))), (tt_fr hR.2.2.1 (Int.le_of_eq (congrArg Int32.toInt (h2.2.1 0 6 (by omega)))) (fun p => h1.2.1 20 p (by omega)) (fun p => h2.2.1 5 p (by omega))), (ff_mk hFF hC.1 (ff_tk hFF (h1.2.2) (h2.2.2.2)).1 (fdc_fr (fun a i z1 z2 => h1.2.1 a i (by omega))) (fdr_cp (fun j hj => h2.2.1 3 j (by omega))) (h1.2.1 0 12 (by omega)) (h2.2.1 0 54 (by omega)) (h1.2.1 0 10 (by omega)) (h1.2.1 0 11 (by omega)) (fun c a i hc hq => h1.2.1 a i (by omega)) (fun a i hq => h2.2.1 a i (by omega)))⟩
set_option maxHeartbeats 4000000 in
theorem law_c2 {X : CU} {cI cZ cB : ClassId} {aC aM : Nat → Nat} {b L : Nat} {xs : Nat → Int32} (hX : OkU X code RL 4 cI cZ cB 300 600000 7302250) (hSc : ScU X b L xs) (hL : L ≤ 3072) {i : Nat} (hi : i + 6 ≤ L) {MC MM : Mem} (hC : InvC MC) (hM : InvM MM) (hR : Rel MC MM) (hk : ∀ MC' MM' : Mem, InvC MC' → InvM MM' → Rel MC' MM' → VU X (wl 60 aC (glC aC cI cZ cB) MC' ++ (wl 39 aM (glM aM cI cZ cB) MM' ++ [])) [(0, .ref b), (1, .ref (aC 0)), (2, .ref (aM 0)), (3, .int (nI i))] [] 1128 99 12419) : VU X (wl 60 aC (glC aC cI cZ cB) MC ++ (wl 39 aM (glM aM cI cZ cB) MM ++ [])) [(0, .ref b), (1, .ref (aC 0)), (2, .ref (aM 0)), (3, .int (nI i))] [] 252 99 12419 := by
  have hFF : FF MC MM := hR.2.2.2
  obtain ⟨FR, FF0, Ftb, hLc, hLr, hLq⟩ := hFF.2.2.2
  refine u_aload (kk := 1) hX dL_law_252 rfl rfl ?_
  refine u_aload (kk := 0) hX dL_law_253 rfl rfl ?_
  refine u_iload (kk := 3) hX dL_law_254 rfl rfl ?_
  refine u_iconst (v := nI 1) hX dL_law_255 (by decide) ?_
  refine u_iadd hX dL_law_256 ?_
  refine u_top (y := nI (i + 1)) (nI_add _ _) ?_
  refine u_sld hX hSc (by omega) (by omega) dL_law_257 ?_
  refine u_aload (kk := 0) hX dL_law_258 rfl rfl ?_
  refine u_iload (kk := 3) hX dL_law_259 rfl rfl ?_
  refine u_iconst (v := nI 2) hX dL_law_260 (by decide) ?_
  refine u_iadd hX dL_law_261 ?_
  refine u_top (y := nI (i + 2)) (nI_add _ _) ?_
  refine u_sld hX hSc (by omega) (by omega) dL_law_262 ?_
  refine u_if_eq (tgt := 270) hX dL_law_263 (by decide) (fun c263 => ?_) (fun c263 => ?_)
  · refine u_iconst (v := nI 0) hX dL_law_270 (by decide) ?_
    obtain ⟨p1, e1, h1⟩ := o9_X9_under MC (xs (i + 1)) (nI 0) (by decide)
    refine u_wd (List.nil_append _).symm ?_
    refine u_call hX [] (t_X9_under (xs (i + 1)) (nI 0) MC p1 e1) mX9_under lL_23 (by decide) (by decide) oC0 rfl rfl rfl rfl ⟨Nat.le_of_ble_eq_true rfl, Nat.le_of_ble_eq_true rfl⟩ rfl (Nat.le_of_ble_eq_true rfl) dL_law_271 (fun r1 MC1 q1 => ?_)
    refine u_wd (List.nil_append _) ?_
    rw [← q1] at h1
    have hC1 : InvC MC1 := invC_fr hC (h1.2.1 0 10 (by omega)) (h1.2.1 0 11 (by omega)) (h1.2.1 0 12 (by omega))
    refine u_pop hX dL_law_274 rfl ?_
    refine u_aload (kk := 2) hX dL_law_275 rfl rfl ?_
    refine u_aload (kk := 0) hX dL_law_276 rfl rfl ?_
    refine u_iload (kk := 3) hX dL_law_277 rfl rfl ?_
    refine u_iconst (v := nI 1) hX dL_law_278 (by decide) ?_
    refine u_iadd hX dL_law_279 ?_
    refine u_top (y := nI (i + 1)) (nI_add _ _) ?_
    refine u_sld hX hSc (by omega) (by omega) dL_law_280 ?_
    refine u_aload (kk := 0) hX dL_law_281 rfl rfl ?_
    refine u_iload (kk := 3) hX dL_law_282 rfl rfl ?_
    refine u_iconst (v := nI 2) hX dL_law_283 (by decide) ?_
    refine u_iadd hX dL_law_284 ?_
    refine u_top (y := nI (i + 2)) (nI_add _ _) ?_
    refine u_sld hX hSc (by omega) (by omega) dL_law_285 ?_
    refine u_if_eq (tgt := 293) hX dL_law_286 (by decide) (fun c286 => ?_) (fun c286 => ?_)
    · refine u_iconst (v := nI 0) hX dL_law_293 (by decide) ?_
      obtain ⟨p2, e2, h2⟩ := o9_X10_under MM (xs (i + 1)) (nI 0) hFF.1.2 (by decide)
      refine u_call hX _ (t_X10_under (xs (i + 1)) (nI 0) MM p2 e2) mX10_under lL_27 (by decide) (by decide) oM0 rfl rfl rfl rfl ⟨Nat.le_of_ble_eq_true rfl, Nat.le_of_ble_eq_true rfl⟩ rfl (Nat.le_of_ble_eq_true rfl) dL_law_294 (fun r2 MM1 q2 => ?_)
      rw [← q2] at h2
      have hM1 : InvM MM1 := ⟨h2.2.2.1, (st_copy hM.2.1 (fun j _ => h2.2.1 3 j (by omega))), (tp_fr hM.2.2.1 (h2.2.1 0 6 (by omega))), (gl_ext hM.2.2.2 (h2.2.1 0 15 (by omega)) (fun i => h2.2.1 12 i (by omega)) (fun i => h2.2.1 14 i (by omega)) (fun i => h2.2.1 15 i (by omega)) (fun i => h2.2.1 16 i (by omega)))⟩
      refine u_pop hX dL_law_297 rfl ?_
      refine u_goto (tgt := 1128) hX dL_law_298 (by decide) ?_
      exact hk MC1 MM1 hC1 hM1 ⟨((h1.2.1 19 1 (by omega)).trans (hR.1.trans (h2.2.1 0 6 (by omega)).symm)), (pp_fr hR.2.1 (h2.2.1 0 4 (by omega)) (fun p => h1.2.1 43 p (by omega))), (tt_fr hR.2.2.1 (Int.le_of_eq (congrArg Int32.toInt (h2.2.1 0 6 (by omega)))) (fun p => h1.2.1 20 p (by omega)) (fun p => h2.2.1 5 p (by omega))), (ff_mk hFF hC.1 (ff_un hFF (h1.2.2) (h2.2.2.2) (by decide)).1 (fdc_fr (fun a i z1 z2 => h1.2.1 a i (by omega))) (fdr_cp (fun j hj => h2.2.1 3 j (by omega))) (h1.2.1 0 12 (by omega)) (h2.2.1 0 54 (by omega)) (h1.2.1 0 10 (by omega)) (h1.2.1 0 11 (by omega)) (fun c a i hc hq => h1.2.1 a i (by omega)) (fun a i hq => h2.2.1 a i (by omega)))⟩
    · exact absurd c263 c286
  · refine u_iconst (v := nI 1) hX dL_law_266 (by decide) ?_
    refine u_goto (tgt := 271) hX dL_law_267 (by decide) ?_
    obtain ⟨p1, e1, h1⟩ := o9_X9_under MC (xs (i + 1)) (nI 1) (by decide)
    refine u_wd (List.nil_append _).symm ?_
    refine u_call hX [] (t_X9_under (xs (i + 1)) (nI 1) MC p1 e1) mX9_under lL_23 (by decide) (by decide) oC0 rfl rfl rfl rfl ⟨Nat.le_of_ble_eq_true rfl, Nat.le_of_ble_eq_true rfl⟩ rfl (Nat.le_of_ble_eq_true rfl) dL_law_271 (fun r1 MC1 q1 => ?_)
    refine u_wd (List.nil_append _) ?_
    rw [← q1] at h1
    have hC1 : InvC MC1 := invC_fr hC (h1.2.1 0 10 (by omega)) (h1.2.1 0 11 (by omega)) (h1.2.1 0 12 (by omega))
    refine u_pop hX dL_law_274 rfl ?_
    refine u_aload (kk := 2) hX dL_law_275 rfl rfl ?_
    refine u_aload (kk := 0) hX dL_law_276 rfl rfl ?_
    refine u_iload (kk := 3) hX dL_law_277 rfl rfl ?_
    refine u_iconst (v := nI 1) hX dL_law_278 (by decide) ?_
    refine u_iadd hX dL_law_279 ?_
    refine u_top (y := nI (i + 1)) (nI_add _ _) ?_
    refine u_sld hX hSc (by omega) (by omega) dL_law_280 ?_
    refine u_aload (kk := 0) hX dL_law_281 rfl rfl ?_
    refine u_iload (kk := 3) hX dL_law_282 rfl rfl ?_
    refine u_iconst (v := nI 2) hX dL_law_283 (by decide) ?_
    refine u_iadd hX dL_law_284 ?_
    refine u_top (y := nI (i + 2)) (nI_add _ _) ?_
    refine u_sld hX hSc (by omega) (by omega) dL_law_285 ?_
    refine u_if_eq (tgt := 293) hX dL_law_286 (by decide) (fun c286 => ?_) (fun c286 => ?_)
    · exact absurd c286 c263
    · refine u_iconst (v := nI 1) hX dL_law_289 (by decide) ?_
      refine u_goto (tgt := 294) hX dL_law_290 (by decide) ?_
      obtain ⟨p2, e2, h2⟩ := o9_X10_under MM (xs (i + 1)) (nI 1) hFF.1.2 (by decide)
      refine u_call hX _ (t_X10_under (xs (i + 1)) (nI 1) MM p2 e2) mX10_under lL_27 (by decide) (by decide) oM0 rfl rfl rfl rfl ⟨Nat.le_of_ble_eq_true rfl, Nat.le_of_ble_eq_true rfl⟩ rfl (Nat.le_of_ble_eq_true rfl) dL_law_294 (fun r2 MM1 q2 => ?_)
      rw [← q2] at h2
      have hM1 : InvM MM1 := ⟨h2.2.2.1, (st_copy hM.2.1 (fun j _ => h2.2.1 3 j (by omega))), (tp_fr hM.2.2.1 (h2.2.1 0 6 (by omega))), (gl_ext hM.2.2.2 (h2.2.1 0 15 (by omega)) (fun i => h2.2.1 12 i (by omega)) (fun i => h2.2.1 14 i (by omega)) (fun i => h2.2.1 15 i (by omega)) (fun i => h2.2.1 16 i (by omega)))⟩
      refine u_pop hX dL_law_297 rfl ?_
      refine u_goto (tgt := 1128) hX dL_law_298 (by decide) ?_
      exact hk MC1 MM1 hC1 hM1 ⟨((h1.2.1 19 1 (by omega)).trans (hR.1.trans (h2.2.1 0 6 (by omega)).symm)), (pp_fr hR.2.1 (h2.2.1 0 4 (by omega)) (fun p => h1.2.1 43 p (by omega))), (tt_fr hR.2.2.1 (Int.le_of_eq (congrArg Int32.toInt (h2.2.1 0 6 (by omega)))) (fun p => h1.2.1 20 p (by omega)) (fun p => h2.2.1 5 p (by omega))), (ff_mk hFF hC.1 (ff_un hFF (h1.2.2) (h2.2.2.2) (by decide)).1 (fdc_fr (fun a i z1 z2 => h1.2.1 a i (by omega))) (fdr_cp (fun j hj => h2.2.1 3 j (by omega))) (h1.2.1 0 12 (by omega)) (h2.2.1 0 54 (by omega)) (h1.2.1 0 10 (by omega)) (h1.2.1 0 11 (by omega)) (fun c a i hc hq => h1.2.1 a i (by omega)) (fun a i hq => h2.2.1 a i (by omega)))⟩
set_option maxHeartbeats 4000000 in
theorem law_c3 {X : CU} {cI cZ cB : ClassId} {aC aM : Nat → Nat} {b L : Nat} {xs : Nat → Int32} (hX : OkU X code RL 4 cI cZ cB 300 600000 7302250) (hSc : ScU X b L xs) (hL : L ≤ 3072) {i : Nat} (hi : i + 6 ≤ L) {MC MM : Mem} (hC : InvC MC) (hM : InvM MM) (hR : Rel MC MM) (hk : ∀ MC' MM' : Mem, InvC MC' → InvM MM' → Rel MC' MM' → VU X (wl 60 aC (glC aC cI cZ cB) MC' ++ (wl 39 aM (glM aM cI cZ cB) MM' ++ [])) [(0, .ref b), (1, .ref (aC 0)), (2, .ref (aM 0)), (3, .int (nI i))] [] 1128 99 12419) : VU X (wl 60 aC (glC aC cI cZ cB) MC ++ (wl 39 aM (glM aM cI cZ cB) MM ++ [])) [(0, .ref b), (1, .ref (aC 0)), (2, .ref (aM 0)), (3, .int (nI i))] [] 301 99 12419 := by
  have hFF : FF MC MM := hR.2.2.2
  obtain ⟨FR, FF0, Ftb, hLc, hLr, hLq⟩ := hFF.2.2.2
  refine u_aload (kk := 1) hX dL_law_301 rfl rfl ?_
  refine u_aload (kk := 0) hX dL_law_302 rfl rfl ?_
  refine u_iload (kk := 3) hX dL_law_303 rfl rfl ?_
  refine u_iconst (v := nI 1) hX dL_law_304 (by decide) ?_
  refine u_iadd hX dL_law_305 ?_
  refine u_top (y := nI (i + 1)) (nI_add _ _) ?_
  refine u_sld hX hSc (by omega) (by omega) dL_law_306 ?_
  refine u_aload (kk := 0) hX dL_law_307 rfl rfl ?_
  refine u_iload (kk := 3) hX dL_law_308 rfl rfl ?_
  refine u_iconst (v := nI 2) hX dL_law_309 (by decide) ?_
  refine u_iadd hX dL_law_310 ?_
  refine u_top (y := nI (i + 2)) (nI_add _ _) ?_
  refine u_sld hX hSc (by omega) (by omega) dL_law_311 ?_
  obtain ⟨p1, e1, h1⟩ := o3_X9_person MC (xs (i + 1)) (xs (i + 2))
  refine u_wd (List.nil_append _).symm ?_
  refine u_call hX [] (t_X9_person (xs (i + 1)) (xs (i + 2)) MC p1 e1) mX9_person lL_28 (by decide) (by decide) oC0 rfl rfl rfl rfl ⟨Nat.le_of_ble_eq_true rfl, Nat.le_of_ble_eq_true rfl⟩ rfl (Nat.le_of_ble_eq_true rfl) dL_law_312 (fun r1 MC1 q1 => ?_)
  refine u_wd (List.nil_append _) ?_
  rw [← q1] at h1
  have hC1 : InvC MC1 := invC_fr hC (h1.2.1 0 10 (by omega)) (h1.2.1 0 11 (by omega)) (h1.2.1 0 12 (by omega))
  refine u_pop hX dL_law_315 rfl ?_
  refine u_aload (kk := 2) hX dL_law_316 rfl rfl ?_
  refine u_aload (kk := 0) hX dL_law_317 rfl rfl ?_
  refine u_iload (kk := 3) hX dL_law_318 rfl rfl ?_
  refine u_iconst (v := nI 1) hX dL_law_319 (by decide) ?_
  refine u_iadd hX dL_law_320 ?_
  refine u_top (y := nI (i + 1)) (nI_add _ _) ?_
  refine u_sld hX hSc (by omega) (by omega) dL_law_321 ?_
  refine u_aload (kk := 0) hX dL_law_322 rfl rfl ?_
  refine u_iload (kk := 3) hX dL_law_323 rfl rfl ?_
  refine u_iconst (v := nI 2) hX dL_law_324 (by decide) ?_
  refine u_iadd hX dL_law_325 ?_
  refine u_top (y := nI (i + 2)) (nI_add _ _) ?_
  refine u_sld hX hSc (by omega) (by omega) dL_law_326 ?_
  obtain ⟨p2, e2, h2⟩ := o3_X10_person MM (xs (i + 1)) (xs (i + 2))
  refine u_call hX _ (t_X10_person (xs (i + 1)) (xs (i + 2)) MM p2 e2) mX10_person lL_32 (by decide) (by decide) oM0 rfl rfl rfl rfl ⟨Nat.le_of_ble_eq_true rfl, Nat.le_of_ble_eq_true rfl⟩ rfl (Nat.le_of_ble_eq_true rfl) dL_law_327 (fun r2 MM1 q2 => ?_)
  rw [← q2] at h2
  have hM1 : InvM MM1 := ⟨(st_copy hM.1 (fun j _ => h2.2.1 1 j (by omega))), (st_copy hM.2.1 (fun j _ => h2.2.1 3 j (by omega))), (tp_fr hM.2.2.1 (h2.2.1 0 6 (by omega))), (gl_ext hM.2.2.2 (h2.2.1 0 15 (by omega)) (fun i => h2.2.1 12 i (by omega)) (fun i => h2.2.1 14 i (by omega)) (fun i => h2.2.1 15 i (by omega)) (fun i => h2.2.1 16 i (by omega)))⟩
  refine u_pop hX dL_law_330 rfl ?_
  refine u_goto (tgt := 1128) hX dL_law_331 (by decide) ?_
  exact hk MC1 MM1 hC1 hM1 ⟨((h1.2.1 19 1 (by omega)).trans (hR.1.trans (h2.2.1 0 6 (by omega)).symm)), (pp_pers hR.2.1 (h1.2.2) (h2.2.2)), (tt_fr hR.2.2.1 (Int.le_of_eq (congrArg Int32.toInt (h2.2.1 0 6 (by omega)))) (fun p => h1.2.1 20 p (by omega)) (fun p => h2.2.1 5 p (by omega))), (ff_fr hFF hC.1 (fdc_fr (fun a i z1 z2 => h1.2.1 a i (by omega))) (fdr_same (fun j hj => h2.2.1 1 j (by omega))) (fdc_fr (fun a i z1 z2 => h1.2.1 a i (by omega))) (fdr_cp (fun j hj => h2.2.1 3 j (by omega))) (h1.2.1 0 12 (by omega)) (h2.2.1 0 54 (by omega)) (h1.2.1 0 10 (by omega)) (h1.2.1 0 11 (by omega)) (fun c a i hc hq => h1.2.1 a i (by omega)) (fun a i hq => h2.2.1 a i (by omega)))⟩
set_option maxHeartbeats 4000000 in
theorem law_c4 {X : CU} {cI cZ cB : ClassId} {aC aM : Nat → Nat} {b L : Nat} {xs : Nat → Int32} (hX : OkU X code RL 4 cI cZ cB 300 600000 7302250) (hSc : ScU X b L xs) (hL : L ≤ 3072) {i : Nat} (hi : i + 6 ≤ L) {MC MM : Mem} (hC : InvC MC) (hM : InvM MM) (hR : Rel MC MM) (hk : ∀ MC' MM' : Mem, InvC MC' → InvM MM' → Rel MC' MM' → VU X (wl 60 aC (glC aC cI cZ cB) MC' ++ (wl 39 aM (glM aM cI cZ cB) MM' ++ [])) [(0, .ref b), (1, .ref (aC 0)), (2, .ref (aM 0)), (3, .int (nI i))] [] 1128 99 12419) : VU X (wl 60 aC (glC aC cI cZ cB) MC ++ (wl 39 aM (glM aM cI cZ cB) MM ++ [])) [(0, .ref b), (1, .ref (aC 0)), (2, .ref (aM 0)), (3, .int (nI i))] [] 334 99 12419 := by
  have hFF : FF MC MM := hR.2.2.2
  obtain ⟨FR, FF0, Ftb, hLc, hLr, hLq⟩ := hFF.2.2.2
  refine u_aload (kk := 1) hX dL_law_334 rfl rfl ?_
  refine u_aload (kk := 0) hX dL_law_335 rfl rfl ?_
  refine u_iload (kk := 3) hX dL_law_336 rfl rfl ?_
  refine u_iconst (v := nI 1) hX dL_law_337 (by decide) ?_
  refine u_iadd hX dL_law_338 ?_
  refine u_top (y := nI (i + 1)) (nI_add _ _) ?_
  refine u_sld hX hSc (by omega) (by omega) dL_law_339 ?_
  refine u_aload (kk := 0) hX dL_law_340 rfl rfl ?_
  refine u_iload (kk := 3) hX dL_law_341 rfl rfl ?_
  refine u_iconst (v := nI 2) hX dL_law_342 (by decide) ?_
  refine u_iadd hX dL_law_343 ?_
  refine u_top (y := nI (i + 2)) (nI_add _ _) ?_
  refine u_sld hX hSc (by omega) (by omega) dL_law_344 ?_
  refine u_aload (kk := 0) hX dL_law_345 rfl rfl ?_
  refine u_iload (kk := 3) hX dL_law_346 rfl rfl ?_
  refine u_iconst (v := nI 3) hX dL_law_347 (by decide) ?_
  refine u_iadd hX dL_law_348 ?_
  refine u_top (y := nI (i + 3)) (nI_add _ _) ?_
  refine u_sld hX hSc (by omega) (by omega) dL_law_349 ?_
  refine u_aload (kk := 0) hX dL_law_350 rfl rfl ?_
  refine u_iload (kk := 3) hX dL_law_351 rfl rfl ?_
  refine u_iconst (v := nI 4) hX dL_law_352 (by decide) ?_
  refine u_iadd hX dL_law_353 ?_
  refine u_top (y := nI (i + 4)) (nI_add _ _) ?_
  refine u_sld hX hSc (by omega) (by omega) dL_law_354 ?_
  refine u_aload (kk := 0) hX dL_law_355 rfl rfl ?_
  refine u_iload (kk := 3) hX dL_law_356 rfl rfl ?_
  refine u_iconst (v := nI 5) hX dL_law_357 (by decide) ?_
  refine u_iadd hX dL_law_358 ?_
  refine u_top (y := nI (i + 5)) (nI_add _ _) ?_
  refine u_sld hX hSc (by omega) (by omega) dL_law_359 ?_
  obtain ⟨p1, e1, h1⟩ := o4_X9_feed MC (xs (i + 1)) (xs (i + 2)) (xs (i + 3)) (xs (i + 4)) (xs (i + 5)) (by rw [hR.1]; exact hM.2.2.1)
  refine u_wd (List.nil_append _).symm ?_
  refine u_call hX [] (t_X9_feed (xs (i + 1)) (xs (i + 2)) (xs (i + 3)) (xs (i + 4)) (xs (i + 5)) MC p1 e1) mX9_feed lL_33 (by decide) (by decide) oC0 rfl rfl rfl rfl ⟨Nat.le_of_ble_eq_true rfl, Nat.le_of_ble_eq_true rfl⟩ rfl (Nat.le_of_ble_eq_true rfl) dL_law_360 (fun r1 MC1 q1 => ?_)
  refine u_wd (List.nil_append _) ?_
  rw [← q1] at h1
  have hC1 : InvC MC1 := invC_fr hC (h1.1 0 10 (by omega)) (h1.1 0 11 (by omega)) (h1.1 0 12 (by omega))
  refine u_pop hX dL_law_363 rfl ?_
  refine u_aload (kk := 2) hX dL_law_364 rfl rfl ?_
  refine u_aload (kk := 0) hX dL_law_365 rfl rfl ?_
  refine u_iload (kk := 3) hX dL_law_366 rfl rfl ?_
  refine u_iconst (v := nI 1) hX dL_law_367 (by decide) ?_
  refine u_iadd hX dL_law_368 ?_
  refine u_top (y := nI (i + 1)) (nI_add _ _) ?_
  refine u_sld hX hSc (by omega) (by omega) dL_law_369 ?_
  refine u_aload (kk := 0) hX dL_law_370 rfl rfl ?_
  refine u_iload (kk := 3) hX dL_law_371 rfl rfl ?_
  refine u_iconst (v := nI 2) hX dL_law_372 (by decide) ?_
  refine u_iadd hX dL_law_373 ?_
  refine u_top (y := nI (i + 2)) (nI_add _ _) ?_
  refine u_sld hX hSc (by omega) (by omega) dL_law_374 ?_
  refine u_aload (kk := 0) hX dL_law_375 rfl rfl ?_
  refine u_iload (kk := 3) hX dL_law_376 rfl rfl ?_
  refine u_iconst (v := nI 3) hX dL_law_377 (by decide) ?_
  refine u_iadd hX dL_law_378 ?_
  refine u_top (y := nI (i + 3)) (nI_add _ _) ?_
  refine u_sld hX hSc (by omega) (by omega) dL_law_379 ?_
  refine u_aload (kk := 0) hX dL_law_380 rfl rfl ?_
  refine u_iload (kk := 3) hX dL_law_381 rfl rfl ?_
  refine u_iconst (v := nI 4) hX dL_law_382 (by decide) ?_
  refine u_iadd hX dL_law_383 ?_
  refine u_top (y := nI (i + 4)) (nI_add _ _) ?_
  refine u_sld hX hSc (by omega) (by omega) dL_law_384 ?_
  refine u_aload (kk := 0) hX dL_law_385 rfl rfl ?_
  refine u_iload (kk := 3) hX dL_law_386 rfl rfl ?_
  refine u_iconst (v := nI 5) hX dL_law_387 (by decide) ?_
  refine u_iadd hX dL_law_388 ?_
  refine u_top (y := nI (i + 5)) (nI_add _ _) ?_
  refine u_sld hX hSc (by omega) (by omega) dL_law_389 ?_
  obtain ⟨p2, e2, h2⟩ := o4_X10_feed MM (xs (i + 1)) (xs (i + 2)) (xs (i + 3)) (xs (i + 4)) (xs (i + 5)) hM.2.2.1
  refine u_call hX _ (t_X10_feed (xs (i + 1)) (xs (i + 2)) (xs (i + 3)) (xs (i + 4)) (xs (i + 5)) MM p2 e2) mX10_feed lL_37 (by decide) (by decide) oM0 rfl rfl rfl rfl ⟨Nat.le_of_ble_eq_true rfl, Nat.le_of_ble_eq_true rfl⟩ rfl (Nat.le_of_ble_eq_true rfl) dL_law_390 (fun r2 MM1 q2 => ?_)
  rw [← q2] at h2
  have hM1 : InvM MM1 := ⟨(st_copy hM.1 (fun j _ => h2.1 1 j (by omega))), (st_copy hM.2.1 (fun j _ => h2.1 3 j (by omega))), h2.2.1, (gl_ext hM.2.2.2 (h2.1 0 15 (by omega)) (fun i => h2.1 12 i (by omega)) (fun i => h2.1 14 i (by omega)) (fun i => h2.1 15 i (by omega)) (fun i => h2.1 16 i (by omega)))⟩
  refine u_pop hX dL_law_393 rfl ?_
  refine u_goto (tgt := 1128) hX dL_law_394 (by decide) ?_
  exact hk MC1 MM1 hC1 hM1 ⟨(fd_eq hR.1 (h1.2.1) (h2.2.2.1)), (pp_fr hR.2.1 (h2.1 0 4 (by omega)) (fun p => h1.1 43 p (by omega))), (tt_feed hR.2.2.1 hR.1 hM.2.2.1.1 (h1.2.2.2) (h2.2.2.2.2) (h2.2.2.1)), (ff_fr hFF hC.1 (fdc_fr (fun a i z1 z2 => h1.1 a i (by omega))) (fdr_same (fun j hj => h2.1 1 j (by omega))) (fdc_fr (fun a i z1 z2 => h1.1 a i (by omega))) (fdr_cp (fun j hj => h2.1 3 j (by omega))) (h1.1 0 12 (by omega)) (h2.1 0 54 (by omega)) (h1.1 0 10 (by omega)) (h1.1 0 11 (by omega)) (fun c a i hc hq => h1.1 a i (by omega)) (fun a i hq => h2.1 a i (by omega)))⟩
set_option maxHeartbeats 4000000 in
theorem law_c5 {X : CU} {cI cZ cB : ClassId} {aC aM : Nat → Nat} {b L : Nat} {xs : Nat → Int32} (hX : OkU X code RL 4 cI cZ cB 300 600000 7302250) (hSc : ScU X b L xs) (hL : L ≤ 3072) {i : Nat} (hi : i + 6 ≤ L) {MC MM : Mem} (hC : InvC MC) (hM : InvM MM) (hR : Rel MC MM) (hk : ∀ MC' MM' : Mem, InvC MC' → InvM MM' → Rel MC' MM' → VU X (wl 60 aC (glC aC cI cZ cB) MC' ++ (wl 39 aM (glM aM cI cZ cB) MM' ++ [])) [(0, .ref b), (1, .ref (aC 0)), (2, .ref (aM 0)), (3, .int (nI i))] [] 1128 99 12419) : VU X (wl 60 aC (glC aC cI cZ cB) MC ++ (wl 39 aM (glM aM cI cZ cB) MM ++ [])) [(0, .ref b), (1, .ref (aC 0)), (2, .ref (aM 0)), (3, .int (nI i))] [] 397 99 12419 := by
  have hFF : FF MC MM := hR.2.2.2
  obtain ⟨FR, FF0, Ftb, hLc, hLr, hLq⟩ := hFF.2.2.2
  refine u_aload (kk := 1) hX dL_law_397 rfl rfl ?_
  refine u_aload (kk := 0) hX dL_law_398 rfl rfl ?_
  refine u_iload (kk := 3) hX dL_law_399 rfl rfl ?_
  refine u_iconst (v := nI 1) hX dL_law_400 (by decide) ?_
  refine u_iadd hX dL_law_401 ?_
  refine u_top (y := nI (i + 1)) (nI_add _ _) ?_
  refine u_sld hX hSc (by omega) (by omega) dL_law_402 ?_
  obtain ⟨p1, e1, h1⟩ := oz_X9_law MC (xs (i + 1)) hC.1 hC.2.1 hFF.2.2.1
  refine u_wd (List.nil_append _).symm ?_
  refine u_call hX [] (t_X9_law (xs (i + 1)) MC p1 e1) mX9_law lL_38 (by decide) (by decide) oC0 rfl rfl rfl rfl ⟨Nat.le_of_ble_eq_true rfl, Nat.le_of_ble_eq_true rfl⟩ rfl (Nat.le_of_ble_eq_true rfl) dL_law_403 (fun r1 MC1 q1 => ?_)
  refine u_wd (List.nil_append _) ?_
  rw [← q1] at h1
  have hC1 : InvC MC1 := ⟨h1.2.1, h1.2.2.1, by rw [show MC1 0 12 = MC 0 12 from h1.1 0 12 (by omega)]; exact hC.2.2⟩
  refine u_pop hX dL_law_406 rfl ?_
  refine u_aload (kk := 2) hX dL_law_407 rfl rfl ?_
  refine u_aload (kk := 0) hX dL_law_408 rfl rfl ?_
  refine u_iload (kk := 3) hX dL_law_409 rfl rfl ?_
  refine u_iconst (v := nI 1) hX dL_law_410 (by decide) ?_
  refine u_iadd hX dL_law_411 ?_
  refine u_top (y := nI (i + 1)) (nI_add _ _) ?_
  refine u_sld hX hSc (by omega) (by omega) dL_law_412 ?_
  obtain ⟨p2, e2, h2⟩ := oz_X10_law MM (xs (i + 1)) hM.2.2.1 hM.2.2.2
  refine u_call hX _ (t_X10_law (xs (i + 1)) MM p2 e2) mX10_law lL_42 (by decide) (by decide) oM0 rfl rfl rfl rfl ⟨Nat.le_of_ble_eq_true rfl, Nat.le_of_ble_eq_true rfl⟩ rfl (Nat.le_of_ble_eq_true rfl) dL_law_413 (fun r2 MM1 q2 => ?_)
  rw [← q2] at h2
  have hM1 : InvM MM1 := ⟨(st_copy hM.1 (fun j _ => h2.1 1 j (by omega))), (st_copy hM.2.1 (fun j _ => h2.1 3 j (by omega))), h2.2.1, h2.2.2.1⟩
  refine u_pop hX dL_law_416 rfl ?_
  refine u_goto (tgt := 1128) hX dL_law_417 (by decide) ?_
  exact hk MC1 MM1 hC1 hM1 ⟨(sz_iff hR.1 (by rw [hR.1]) (h1.2.2.2.1) (h2.2.2.2.1)), (pp_fr hR.2.1 (h2.1 0 4 (by omega)) (fun p => h1.1 43 p (by omega))), (tt_fr hR.2.2.1 (sz_le hM.2.2.1.1 (h2.2.2.2.1)) (fun p => h1.1 20 p (by omega)) (fun p => h2.1 5 p (by omega))), (ff_lw hFF hC.1 hC.2.1 (by rw [hR.1]) (fun z => ⟨by omega, by omega⟩) (fun z j hj => by show (MC 20 j).toInt = ((MM 5 j) &&& (nI 255)).toInt; rw [hR.2.2.1 j (by omega)]) (h1.2.2.2.2.2) (h2.2.2.2.2.2) (h2.2.2.1) (fdc_fr (fun a i z1 z2 => h1.1 a i (by omega))) (fdr_same (fun j hj => h2.1 1 j (by omega))) (fdc_fr (fun a i z1 z2 => h1.1 a i (by omega))) (fdr_cp (fun j hj => h2.1 3 j (by omega))) (h1.1 0 12 (by omega)) (h2.1 0 54 (by omega)))⟩
set_option maxHeartbeats 4000000 in
theorem law_c6 {X : CU} {cI cZ cB : ClassId} {aC aM : Nat → Nat} {b L : Nat} {xs : Nat → Int32} (hX : OkU X code RL 4 cI cZ cB 300 600000 7302250) (hSc : ScU X b L xs) (hL : L ≤ 3072) {i : Nat} (hi : i + 6 ≤ L) {MC MM : Mem} (hC : InvC MC) (hM : InvM MM) (hR : Rel MC MM) (hk : ∀ MC' MM' : Mem, InvC MC' → InvM MM' → Rel MC' MM' → VU X (wl 60 aC (glC aC cI cZ cB) MC' ++ (wl 39 aM (glM aM cI cZ cB) MM' ++ [])) [(0, .ref b), (1, .ref (aC 0)), (2, .ref (aM 0)), (3, .int (nI i))] [] 1128 99 12419) : VU X (wl 60 aC (glC aC cI cZ cB) MC ++ (wl 39 aM (glM aM cI cZ cB) MM ++ [])) [(0, .ref b), (1, .ref (aC 0)), (2, .ref (aM 0)), (3, .int (nI i))] [] 420 99 12419 := by
  have hFF : FF MC MM := hR.2.2.2
  obtain ⟨FR, FF0, Ftb, hLc, hLr, hLq⟩ := hFF.2.2.2
  refine u_aload (kk := 1) hX dL_law_420 rfl rfl ?_
  refine u_aload (kk := 0) hX dL_law_421 rfl rfl ?_
  refine u_iload (kk := 3) hX dL_law_422 rfl rfl ?_
  refine u_iconst (v := nI 1) hX dL_law_423 (by decide) ?_
  refine u_iadd hX dL_law_424 ?_
  refine u_top (y := nI (i + 1)) (nI_add _ _) ?_
  refine u_sld hX hSc (by omega) (by omega) dL_law_425 ?_
  obtain ⟨p1, e1, h1⟩ := on_X9_notebook MC (xs (i + 1)) (by rw [hFF.1.1]; exact hFF.1.2)
  refine u_wd (List.nil_append _).symm ?_
  refine u_call hX [] (t_X9_notebook (xs (i + 1)) MC p1 e1) mX9_notebook lL_43 (by decide) (by decide) oC0 rfl rfl rfl rfl ⟨Nat.le_of_ble_eq_true rfl, Nat.le_of_ble_eq_true rfl⟩ rfl (Nat.le_of_ble_eq_true rfl) dL_law_426 (fun r1 MC1 q1 => ?_)
  refine u_wd (List.nil_append _) ?_
  rw [← q1] at h1
  have hC1 : InvC MC1 := invC_fr hC (h1.1 0 10 (by omega)) (h1.1 0 11 (by omega)) (h1.1 0 12 (by omega))
  refine u_pop hX dL_law_429 rfl ?_
  refine u_aload (kk := 2) hX dL_law_430 rfl rfl ?_
  refine u_aload (kk := 0) hX dL_law_431 rfl rfl ?_
  refine u_iload (kk := 3) hX dL_law_432 rfl rfl ?_
  refine u_iconst (v := nI 1) hX dL_law_433 (by decide) ?_
  refine u_iadd hX dL_law_434 ?_
  refine u_top (y := nI (i + 1)) (nI_add _ _) ?_
  refine u_sld hX hSc (by omega) (by omega) dL_law_435 ?_
  obtain ⟨p2, e2, h2⟩ := on_X10_notebook MM (xs (i + 1)) hM.2.2.1 hM.1
  refine u_call hX _ (t_X10_notebook (xs (i + 1)) MM p2 e2) mX10_notebook lL_46 (by decide) (by decide) oM0 rfl rfl rfl rfl ⟨Nat.le_of_ble_eq_true rfl, Nat.le_of_ble_eq_true rfl⟩ rfl (Nat.le_of_ble_eq_true rfl) dL_law_436 (fun r2 MM1 q2 => ?_)
  rw [← q2] at h2
  have hM1 : InvM MM1 := ⟨h2.2.2.1, (st_copy hM.2.1 (fun j _ => h2.1 3 j (by omega))), h2.2.1, (gl_ext hM.2.2.2 (h2.1 0 15 (by omega)) (fun i => h2.1 12 i (by omega)) (fun i => h2.1 14 i (by omega)) (fun i => h2.1 15 i (by omega)) (fun i => h2.1 16 i (by omega)))⟩
  refine u_pop hX dL_law_439 rfl ?_
  refine u_goto (tgt := 1128) hX dL_law_440 (by decide) ?_
  exact hk MC1 MM1 hC1 hM1 ⟨(sz_iff hR.1 (by rw [hR.1]) (h1.2.1) (h2.2.2.2.1)), (pp_fr hR.2.1 (h2.1 0 4 (by omega)) (fun p => h1.1 43 p (by omega))), (tt_fr hR.2.2.1 (sz_le hM.2.2.1.1 (h2.2.2.2.1)) (fun p => h1.1 20 p (by omega)) (fun p => h2.1 5 p (by omega))), (ff_mk hFF hC.1 (ff_nb hFF (by rw [hR.1]) (fun z j hj => by show (MC 20 j).toInt = ((MM 5 j) &&& (nI 255)).toInt; rw [hR.2.2.1 j (by omega)]) (h1.2.2.2) (h2.2.2.2.2)) (fdc_fr (fun a i z1 z2 => h1.1 a i (by omega))) (fdr_cp (fun j hj => h2.1 3 j (by omega))) (h1.1 0 12 (by omega)) (h2.1 0 54 (by omega)) (h1.1 0 10 (by omega)) (h1.1 0 11 (by omega)) (fun c a i hc hq => h1.1 a i (by omega)) (fun a i hq => h2.1 a i (by omega)))⟩
set_option maxHeartbeats 4000000 in
theorem law_c7 {X : CU} {cI cZ cB : ClassId} {aC aM : Nat → Nat} {b L : Nat} {xs : Nat → Int32} (hX : OkU X code RL 4 cI cZ cB 300 600000 7302250) (hSc : ScU X b L xs) (hL : L ≤ 3072) {i : Nat} (hi : i + 6 ≤ L) {MC MM : Mem} (hC : InvC MC) (hM : InvM MM) (hR : Rel MC MM) (hk : ∀ MC' MM' : Mem, InvC MC' → InvM MM' → Rel MC' MM' → VU X (wl 60 aC (glC aC cI cZ cB) MC' ++ (wl 39 aM (glM aM cI cZ cB) MM' ++ [])) [(0, .ref b), (1, .ref (aC 0)), (2, .ref (aM 0)), (3, .int (nI i))] [] 1128 99 12419) : VU X (wl 60 aC (glC aC cI cZ cB) MC ++ (wl 39 aM (glM aM cI cZ cB) MM ++ [])) [(0, .ref b), (1, .ref (aC 0)), (2, .ref (aM 0)), (3, .int (nI i))] [] 443 99 12419 := by
  have hFF : FF MC MM := hR.2.2.2
  obtain ⟨FR, FF0, Ftb, hLc, hLr, hLq⟩ := hFF.2.2.2
  refine u_aload (kk := 1) hX dL_law_443 rfl rfl ?_
  refine u_aload (kk := 0) hX dL_law_444 rfl rfl ?_
  refine u_iload (kk := 3) hX dL_law_445 rfl rfl ?_
  refine u_iconst (v := nI 1) hX dL_law_446 (by decide) ?_
  refine u_iadd hX dL_law_447 ?_
  refine u_top (y := nI (i + 1)) (nI_add _ _) ?_
  refine u_sld hX hSc (by omega) (by omega) dL_law_448 ?_
  obtain ⟨p1, e1, h1⟩ := o9_X9_nights MC (xs (i + 1)) hC.1 FR FF0 Ftb hLc hLq (by rw [hFF.1.1]; exact hFF.1.2)
  refine u_wd (List.nil_append _).symm ?_
  refine u_call hX [] (t_X9_nights (xs (i + 1)) MC p1 e1) mX9_nights lL_47 (by decide) (by decide) oC0 rfl rfl rfl rfl ⟨Nat.le_of_ble_eq_true rfl, Nat.le_of_ble_eq_true rfl⟩ rfl (Nat.le_of_ble_eq_true rfl) dL_law_449 (fun r1 MC1 q1 => ?_)
  refine u_wd (List.nil_append _) ?_
  rw [← q1] at h1
  have hC1 : InvC MC1 := invC_fr hC (h1.1 0 10 (by omega)) (h1.1 0 11 (by omega)) (h1.1 0 12 (by omega))
  refine u_pop hX dL_law_452 rfl ?_
  refine u_aload (kk := 2) hX dL_law_453 rfl rfl ?_
  refine u_aload (kk := 0) hX dL_law_454 rfl rfl ?_
  refine u_iload (kk := 3) hX dL_law_455 rfl rfl ?_
  refine u_iconst (v := nI 1) hX dL_law_456 (by decide) ?_
  refine u_iadd hX dL_law_457 ?_
  refine u_top (y := nI (i + 1)) (nI_add _ _) ?_
  refine u_sld hX hSc (by omega) (by omega) dL_law_458 ?_
  obtain ⟨p2, e2, h2⟩ := o9_X10_nights MM (xs (i + 1)) FR FF0 Ftb hLr hLq hFF.1.2
  refine u_call hX _ (t_X10_nights (xs (i + 1)) MM p2 e2) mX10_nights lL_50 (by decide) (by decide) oM0 rfl rfl rfl rfl ⟨Nat.le_of_ble_eq_true rfl, Nat.le_of_ble_eq_true rfl⟩ rfl (Nat.le_of_ble_eq_true rfl) dL_law_459 (fun r2 MM1 q2 => ?_)
  rw [← q2] at h2
  have hM1 : InvM MM1 := ⟨h2.2.1, (st_copy hM.2.1 (fun j _ => h2.1 3 j (by omega))), (tp_fr hM.2.2.1 (h2.1 0 6 (by omega))), (gl_ext hM.2.2.2 (h2.1 0 15 (by omega)) (fun i => h2.1 12 i (by omega)) (fun i => h2.1 14 i (by omega)) (fun i => h2.1 15 i (by omega)) (fun i => h2.1 16 i (by omega)))⟩
  refine u_pop hX dL_law_462 rfl ?_
  refine u_goto (tgt := 1128) hX dL_law_463 (by decide) ?_
  exact hk MC1 MM1 hC1 hM1 ⟨((h1.1 19 1 (by omega)).trans (hR.1.trans (h2.1 0 6 (by omega)).symm)), (pp_fr hR.2.1 (h2.1 0 4 (by omega)) (fun p => h1.1 43 p (by omega))), (tt_fr hR.2.2.1 (Int.le_of_eq (congrArg Int32.toInt (h2.1 0 6 (by omega)))) (fun p => h1.1 20 p (by omega)) (fun p => h2.1 5 p (by omega))), (ff_mk hFF hC.1 (ff_ng hFF (h1.2) (h2.2.2)).1 (fdc_fr (fun a i z1 z2 => h1.1 a i (by omega))) (fdr_cp (fun j hj => h2.1 3 j (by omega))) (h1.1 0 12 (by omega)) (h2.1 0 54 (by omega)) (h1.1 0 10 (by omega)) (h1.1 0 11 (by omega)) (fun c a i hc hq => h1.1 a i (by omega)) (fun a i hq => h2.1 a i (by omega)))⟩
set_option maxHeartbeats 4000000 in
theorem law_c8 {X : CU} {cI cZ cB : ClassId} {aC aM : Nat → Nat} {b L : Nat} {xs : Nat → Int32} (hX : OkU X code RL 4 cI cZ cB 300 600000 7302250) (hSc : ScU X b L xs) (hL : L ≤ 3072) {i : Nat} (hi : i + 6 ≤ L) {MC MM : Mem} (hC : InvC MC) (hM : InvM MM) (hR : Rel MC MM) (hk : ∀ MC' MM' : Mem, InvC MC' → InvM MM' → Rel MC' MM' → VU X (wl 60 aC (glC aC cI cZ cB) MC' ++ (wl 39 aM (glM aM cI cZ cB) MM' ++ [])) [(0, .ref b), (1, .ref (aC 0)), (2, .ref (aM 0)), (3, .int (nI i))] [] 1128 99 12419) : VU X (wl 60 aC (glC aC cI cZ cB) MC ++ (wl 39 aM (glM aM cI cZ cB) MM ++ [])) [(0, .ref b), (1, .ref (aC 0)), (2, .ref (aM 0)), (3, .int (nI i))] [] 466 99 12419 := by
  have hFF : FF MC MM := hR.2.2.2
  obtain ⟨FR, FF0, Ftb, hLc, hLr, hLq⟩ := hFF.2.2.2
  refine u_aload (kk := 1) hX dL_law_466 rfl rfl ?_
  refine u_aload (kk := 0) hX dL_law_467 rfl rfl ?_
  refine u_iload (kk := 3) hX dL_law_468 rfl rfl ?_
  refine u_iconst (v := nI 1) hX dL_law_469 (by decide) ?_
  refine u_iadd hX dL_law_470 ?_
  refine u_top (y := nI (i + 1)) (nI_add _ _) ?_
  refine u_sld hX hSc (by omega) (by omega) dL_law_471 ?_
  refine u_aload (kk := 0) hX dL_law_472 rfl rfl ?_
  refine u_iload (kk := 3) hX dL_law_473 rfl rfl ?_
  refine u_iconst (v := nI 2) hX dL_law_474 (by decide) ?_
  refine u_iadd hX dL_law_475 ?_
  refine u_top (y := nI (i + 2)) (nI_add _ _) ?_
  refine u_sld hX hSc (by omega) (by omega) dL_law_476 ?_
  obtain ⟨p1, e1, h1⟩ := o_X9_tried MC (xs (i + 1)) (xs (i + 2)) hC.1
  refine u_wd (List.nil_append _).symm ?_
  refine u_call hX [] (t_X9_tried (xs (i + 1)) (xs (i + 2)) MC p1 e1) mX9_tried lL_51 (by decide) (by decide) oC0 rfl rfl rfl rfl ⟨Nat.le_of_ble_eq_true rfl, Nat.le_of_ble_eq_true rfl⟩ rfl (Nat.le_of_ble_eq_true rfl) dL_law_477 (fun r1 MC1 q1 => ?_)
  refine u_wd (List.nil_append _) ?_
  rw [← q1] at h1
  have hC1 : InvC MC1 := invC_fr hC (h1 0 10 (by omega)) (h1 0 11 (by omega)) (h1 0 12 (by omega))
  refine u_pop hX dL_law_480 rfl ?_
  refine u_aload (kk := 2) hX dL_law_481 rfl rfl ?_
  refine u_aload (kk := 0) hX dL_law_482 rfl rfl ?_
  refine u_iload (kk := 3) hX dL_law_483 rfl rfl ?_
  refine u_iconst (v := nI 1) hX dL_law_484 (by decide) ?_
  refine u_iadd hX dL_law_485 ?_
  refine u_top (y := nI (i + 1)) (nI_add _ _) ?_
  refine u_sld hX hSc (by omega) (by omega) dL_law_486 ?_
  refine u_aload (kk := 0) hX dL_law_487 rfl rfl ?_
  refine u_iload (kk := 3) hX dL_law_488 rfl rfl ?_
  refine u_iconst (v := nI 2) hX dL_law_489 (by decide) ?_
  refine u_iadd hX dL_law_490 ?_
  refine u_top (y := nI (i + 2)) (nI_add _ _) ?_
  refine u_sld hX hSc (by omega) (by omega) dL_law_491 ?_
  obtain ⟨p2, e2, h2⟩ := ox_X10_tried MM (xs (i + 1)) (xs (i + 2)) hM.1 hM.2.2.2
  refine u_call hX _ (t_X10_tried (xs (i + 1)) (xs (i + 2)) MM p2 e2) mX10_tried lL_55 (by decide) (by decide) oM0 rfl rfl rfl rfl ⟨Nat.le_of_ble_eq_true rfl, Nat.le_of_ble_eq_true rfl⟩ rfl (Nat.le_of_ble_eq_true rfl) dL_law_492 (fun r2 MM1 q2 => ?_)
  rw [← q2] at h2
  have hM1 : InvM MM1 := ⟨h2.2.1, (st_copy hM.2.1 (fun j _ => h2.1 3 j (by omega))), (tp_fr hM.2.2.1 (h2.1 0 6 (by omega))), (gl_ext hM.2.2.2 (h2.1 0 15 (by omega)) (fun i => h2.1 12 i (by omega)) (fun i => h2.1 14 i (by omega)) (fun i => h2.1 15 i (by omega)) (fun i => h2.1 16 i (by omega)))⟩
  refine u_pop hX dL_law_495 rfl ?_
  refine u_goto (tgt := 1128) hX dL_law_496 (by decide) ?_
  exact hk MC1 MM1 hC1 hM1 ⟨((h1 19 1 (by omega)).trans (hR.1.trans (h2.1 0 6 (by omega)).symm)), (pp_fr hR.2.1 (h2.1 0 4 (by omega)) (fun p => h1 43 p (by omega))), (tt_fr hR.2.2.1 (Int.le_of_eq (congrArg Int32.toInt (h2.1 0 6 (by omega)))) (fun p => h1 20 p (by omega)) (fun p => h2.1 5 p (by omega))), (ff_fr hFF hC.1 (fdc_fr (fun a i z1 z2 => h1 a i (by omega))) (h2.2.2) (fdc_fr (fun a i z1 z2 => h1 a i (by omega))) (fdr_cp (fun j hj => h2.1 3 j (by omega))) (h1 0 12 (by omega)) (h2.1 0 54 (by omega)) (h1 0 10 (by omega)) (h1 0 11 (by omega)) (fun c a i hc hq => h1 a i (by omega)) (fun a i hq => h2.1 a i (by omega)))⟩
set_option maxHeartbeats 4000000 in
theorem law_c9 {X : CU} {cI cZ cB : ClassId} {aC aM : Nat → Nat} {b L : Nat} {xs : Nat → Int32} (hX : OkU X code RL 4 cI cZ cB 300 600000 7302250) (hSc : ScU X b L xs) (hL : L ≤ 3072) {i : Nat} (hi : i + 6 ≤ L) {MC MM : Mem} (hC : InvC MC) (hM : InvM MM) (hR : Rel MC MM) (hk : ∀ MC' MM' : Mem, InvC MC' → InvM MM' → Rel MC' MM' → VU X (wl 60 aC (glC aC cI cZ cB) MC' ++ (wl 39 aM (glM aM cI cZ cB) MM' ++ [])) [(0, .ref b), (1, .ref (aC 0)), (2, .ref (aM 0)), (3, .int (nI i))] [] 1128 99 12419) : VU X (wl 60 aC (glC aC cI cZ cB) MC ++ (wl 39 aM (glM aM cI cZ cB) MM ++ [])) [(0, .ref b), (1, .ref (aC 0)), (2, .ref (aM 0)), (3, .int (nI i))] [] 499 99 12419 := by
  have hFF : FF MC MM := hR.2.2.2
  obtain ⟨FR, FF0, Ftb, hLc, hLr, hLq⟩ := hFF.2.2.2
  refine u_aload (kk := 1) hX dL_law_499 rfl rfl ?_
  refine u_aload (kk := 0) hX dL_law_500 rfl rfl ?_
  refine u_iload (kk := 3) hX dL_law_501 rfl rfl ?_
  refine u_iconst (v := nI 1) hX dL_law_502 (by decide) ?_
  refine u_iadd hX dL_law_503 ?_
  refine u_top (y := nI (i + 1)) (nI_add _ _) ?_
  refine u_sld hX hSc (by omega) (by omega) dL_law_504 ?_
  refine u_aload (kk := 0) hX dL_law_505 rfl rfl ?_
  refine u_iload (kk := 3) hX dL_law_506 rfl rfl ?_
  refine u_iconst (v := nI 2) hX dL_law_507 (by decide) ?_
  refine u_iadd hX dL_law_508 ?_
  refine u_top (y := nI (i + 2)) (nI_add _ _) ?_
  refine u_sld hX hSc (by omega) (by omega) dL_law_509 ?_
  obtain ⟨p1, e1, h1⟩ := o9_X9_stoneIs MC (xs (i + 1)) (xs (i + 2)) (by rw [hFF.1.1]; exact hFF.1.2)
  refine u_wd (List.nil_append _).symm ?_
  refine u_call hX [] (t_X9_stoneIs (xs (i + 1)) (xs (i + 2)) MC p1 e1) mX9_stoneIs lL_56 (by decide) (by decide) oC0 rfl rfl rfl rfl ⟨Nat.le_of_ble_eq_true rfl, Nat.le_of_ble_eq_true rfl⟩ rfl (Nat.le_of_ble_eq_true rfl) dL_law_510 (fun r1 MC1 q1 => ?_)
  refine u_wd (List.nil_append _) ?_
  rw [← q1.1] at h1
  have hC1 : InvC MC1 := by rw [q1.2]; exact hC
  refine u_pop hX dL_law_513 rfl ?_
  refine u_aload (kk := 2) hX dL_law_514 rfl rfl ?_
  refine u_aload (kk := 0) hX dL_law_515 rfl rfl ?_
  refine u_iload (kk := 3) hX dL_law_516 rfl rfl ?_
  refine u_iconst (v := nI 1) hX dL_law_517 (by decide) ?_
  refine u_iadd hX dL_law_518 ?_
  refine u_top (y := nI (i + 1)) (nI_add _ _) ?_
  refine u_sld hX hSc (by omega) (by omega) dL_law_519 ?_
  refine u_aload (kk := 0) hX dL_law_520 rfl rfl ?_
  refine u_iload (kk := 3) hX dL_law_521 rfl rfl ?_
  refine u_iconst (v := nI 2) hX dL_law_522 (by decide) ?_
  refine u_iadd hX dL_law_523 ?_
  refine u_top (y := nI (i + 2)) (nI_add _ _) ?_
  refine u_sld hX hSc (by omega) (by omega) dL_law_524 ?_
  obtain ⟨p2, e2, h2⟩ := o9_X10_stoneIs MM (xs (i + 1)) (xs (i + 2)) hFF.1.2
  refine u_call hX _ (t_X10_stoneIs (xs (i + 1)) (xs (i + 2)) MM p2 e2) mX10_stoneIs lL_59 (by decide) (by decide) oM0 rfl rfl rfl rfl ⟨Nat.le_of_ble_eq_true rfl, Nat.le_of_ble_eq_true rfl⟩ rfl (Nat.le_of_ble_eq_true rfl) dL_law_525 (fun r2 MM1 q2 => ?_)
  rw [← q2.1] at h2
  have hM1 : InvM MM1 := by rw [q2.2]; exact hM
  refine u_pop hX dL_law_528 rfl ?_
  refine u_goto (tgt := 1128) hX dL_law_529 (by decide) ?_
  exact hk MC1 MM1 hC1 hM1 ⟨((congrFun (congrFun q1.2 19) 1).trans (hR.1.trans (congrFun (congrFun q2.2 0) 6).symm)), (pp_fr hR.2.1 (congrFun (congrFun q2.2 0) 4) (fun p => congrFun (congrFun q1.2 43) p)), (tt_fr hR.2.2.1 (Int.le_of_eq (congrArg Int32.toInt (congrFun (congrFun q2.2 0) 6))) (fun p => congrFun (congrFun q1.2 20) p) (fun p => congrFun (congrFun q2.2 5) p)), (ff_fr hFF hC.1 (fdc_fr (fun a i z1 z2 => congrFun (congrFun q1.2 a) i)) (fdr_same (fun j hj => congrFun (congrFun q2.2 1) j)) (fdc_fr (fun a i z1 z2 => congrFun (congrFun q1.2 a) i)) (fdr_cp (fun j hj => congrFun (congrFun q2.2 3) j)) (congrFun (congrFun q1.2 0) 12) (congrFun (congrFun q2.2 0) 54) (congrFun (congrFun q1.2 0) 10) (congrFun (congrFun q1.2 0) 11) (fun c a i hc hq => congrFun (congrFun q1.2 a) i) (fun a i hq => congrFun (congrFun q2.2 a) i))⟩
set_option maxHeartbeats 4000000 in
theorem law_c10 {X : CU} {cI cZ cB : ClassId} {aC aM : Nat → Nat} {b L : Nat} {xs : Nat → Int32} (hX : OkU X code RL 4 cI cZ cB 300 600000 7302250) (hSc : ScU X b L xs) (hL : L ≤ 3072) {i : Nat} (hi : i + 6 ≤ L) {MC MM : Mem} (hC : InvC MC) (hM : InvM MM) (hR : Rel MC MM) (hk : ∀ MC' MM' : Mem, InvC MC' → InvM MM' → Rel MC' MM' → VU X (wl 60 aC (glC aC cI cZ cB) MC' ++ (wl 39 aM (glM aM cI cZ cB) MM' ++ [])) [(0, .ref b), (1, .ref (aC 0)), (2, .ref (aM 0)), (3, .int (nI i))] [] 1128 99 12419) : VU X (wl 60 aC (glC aC cI cZ cB) MC ++ (wl 39 aM (glM aM cI cZ cB) MM ++ [])) [(0, .ref b), (1, .ref (aC 0)), (2, .ref (aM 0)), (3, .int (nI i))] [] 532 99 12419 := by
  have hFF : FF MC MM := hR.2.2.2
  obtain ⟨FR, FF0, Ftb, hLc, hLr, hLq⟩ := hFF.2.2.2
  refine u_aload (kk := 1) hX dL_law_532 rfl rfl ?_
  refine u_aload (kk := 0) hX dL_law_533 rfl rfl ?_
  refine u_iload (kk := 3) hX dL_law_534 rfl rfl ?_
  refine u_iconst (v := nI 1) hX dL_law_535 (by decide) ?_
  refine u_iadd hX dL_law_536 ?_
  refine u_top (y := nI (i + 1)) (nI_add _ _) ?_
  refine u_sld hX hSc (by omega) (by omega) dL_law_537 ?_
  refine u_aload (kk := 0) hX dL_law_538 rfl rfl ?_
  refine u_iload (kk := 3) hX dL_law_539 rfl rfl ?_
  refine u_iconst (v := nI 2) hX dL_law_540 (by decide) ?_
  refine u_iadd hX dL_law_541 ?_
  refine u_top (y := nI (i + 2)) (nI_add _ _) ?_
  refine u_sld hX hSc (by omega) (by omega) dL_law_542 ?_
  obtain ⟨p1, e1, h1⟩ := o9_X9_at MC (xs (i + 1)) (xs (i + 2))
  refine u_wd (List.nil_append _).symm ?_
  refine u_call hX [] (t_X9_at (xs (i + 1)) (xs (i + 2)) MC p1 e1) mX9_at lL_60 (by decide) (by decide) oC0 rfl rfl rfl rfl ⟨Nat.le_of_ble_eq_true rfl, Nat.le_of_ble_eq_true rfl⟩ rfl (Nat.le_of_ble_eq_true rfl) dL_law_543 (fun r1 MC1 q1 => ?_)
  refine u_wd (List.nil_append _) ?_
  rw [← q1.1] at h1
  have hC1 : InvC MC1 := by rw [q1.2]; exact hC
  refine u_pop hX dL_law_546 rfl ?_
  refine u_aload (kk := 2) hX dL_law_547 rfl rfl ?_
  refine u_aload (kk := 0) hX dL_law_548 rfl rfl ?_
  refine u_iload (kk := 3) hX dL_law_549 rfl rfl ?_
  refine u_iconst (v := nI 1) hX dL_law_550 (by decide) ?_
  refine u_iadd hX dL_law_551 ?_
  refine u_top (y := nI (i + 1)) (nI_add _ _) ?_
  refine u_sld hX hSc (by omega) (by omega) dL_law_552 ?_
  refine u_aload (kk := 0) hX dL_law_553 rfl rfl ?_
  refine u_iload (kk := 3) hX dL_law_554 rfl rfl ?_
  refine u_iconst (v := nI 2) hX dL_law_555 (by decide) ?_
  refine u_iadd hX dL_law_556 ?_
  refine u_top (y := nI (i + 2)) (nI_add _ _) ?_
  refine u_sld hX hSc (by omega) (by omega) dL_law_557 ?_
  obtain ⟨p2, e2, h2⟩ := o9_X10_at MM (xs (i + 1)) (xs (i + 2)) hFF.1.2
  refine u_call hX _ (t_X10_at (xs (i + 1)) (xs (i + 2)) MM p2 e2) mX10_at lL_63 (by decide) (by decide) oM0 rfl rfl rfl rfl ⟨Nat.le_of_ble_eq_true rfl, Nat.le_of_ble_eq_true rfl⟩ rfl (Nat.le_of_ble_eq_true rfl) dL_law_558 (fun r2 MM1 q2 => ?_)
  rw [← q2.1] at h2
  have hM1 : InvM MM1 := by rw [q2.2]; exact hM
  refine u_pop hX dL_law_561 rfl ?_
  refine u_goto (tgt := 1128) hX dL_law_562 (by decide) ?_
  exact hk MC1 MM1 hC1 hM1 ⟨((congrFun (congrFun q1.2 19) 1).trans (hR.1.trans (congrFun (congrFun q2.2 0) 6).symm)), (pp_fr hR.2.1 (congrFun (congrFun q2.2 0) 4) (fun p => congrFun (congrFun q1.2 43) p)), (tt_fr hR.2.2.1 (Int.le_of_eq (congrArg Int32.toInt (congrFun (congrFun q2.2 0) 6))) (fun p => congrFun (congrFun q1.2 20) p) (fun p => congrFun (congrFun q2.2 5) p)), (ff_fr hFF hC.1 (fdc_fr (fun a i z1 z2 => congrFun (congrFun q1.2 a) i)) (fdr_same (fun j hj => congrFun (congrFun q2.2 1) j)) (fdc_fr (fun a i z1 z2 => congrFun (congrFun q1.2 a) i)) (fdr_cp (fun j hj => congrFun (congrFun q2.2 3) j)) (congrFun (congrFun q1.2 0) 12) (congrFun (congrFun q2.2 0) 54) (congrFun (congrFun q1.2 0) 10) (congrFun (congrFun q1.2 0) 11) (fun c a i hc hq => congrFun (congrFun q1.2 a) i) (fun a i hq => congrFun (congrFun q2.2 a) i))⟩
set_option maxHeartbeats 4000000 in
theorem law_c11 {X : CU} {cI cZ cB : ClassId} {aC aM : Nat → Nat} {b L : Nat} {xs : Nat → Int32} (hX : OkU X code RL 4 cI cZ cB 300 600000 7302250) (hSc : ScU X b L xs) (hL : L ≤ 3072) {i : Nat} (hi : i + 6 ≤ L) {MC MM : Mem} (hC : InvC MC) (hM : InvM MM) (hR : Rel MC MM) (hk : ∀ MC' MM' : Mem, InvC MC' → InvM MM' → Rel MC' MM' → VU X (wl 60 aC (glC aC cI cZ cB) MC' ++ (wl 39 aM (glM aM cI cZ cB) MM' ++ [])) [(0, .ref b), (1, .ref (aC 0)), (2, .ref (aM 0)), (3, .int (nI i))] [] 1128 99 12419) : VU X (wl 60 aC (glC aC cI cZ cB) MC ++ (wl 39 aM (glM aM cI cZ cB) MM ++ [])) [(0, .ref b), (1, .ref (aC 0)), (2, .ref (aM 0)), (3, .int (nI i))] [] 565 99 12419 := by
  have hFF : FF MC MM := hR.2.2.2
  obtain ⟨FR, FF0, Ftb, hLc, hLr, hLq⟩ := hFF.2.2.2
  refine u_aload (kk := 1) hX dL_law_565 rfl rfl ?_
  refine u_aload (kk := 0) hX dL_law_566 rfl rfl ?_
  refine u_iload (kk := 3) hX dL_law_567 rfl rfl ?_
  refine u_iconst (v := nI 1) hX dL_law_568 (by decide) ?_
  refine u_iadd hX dL_law_569 ?_
  refine u_top (y := nI (i + 1)) (nI_add _ _) ?_
  refine u_sld hX hSc (by omega) (by omega) dL_law_570 ?_
  refine u_aload (kk := 0) hX dL_law_571 rfl rfl ?_
  refine u_iload (kk := 3) hX dL_law_572 rfl rfl ?_
  refine u_iconst (v := nI 2) hX dL_law_573 (by decide) ?_
  refine u_iadd hX dL_law_574 ?_
  refine u_top (y := nI (i + 2)) (nI_add _ _) ?_
  refine u_sld hX hSc (by omega) (by omega) dL_law_575 ?_
  obtain ⟨p1, e1, h1⟩ := o_X9_cross MC (xs (i + 1)) (xs (i + 2))
  refine u_wd (List.nil_append _).symm ?_
  refine u_call hX [] (t_X9_cross (xs (i + 1)) (xs (i + 2)) MC p1 e1) mX9_cross lL_64 (by decide) (by decide) oC0 rfl rfl rfl rfl ⟨Nat.le_of_ble_eq_true rfl, Nat.le_of_ble_eq_true rfl⟩ rfl (Nat.le_of_ble_eq_true rfl) dL_law_576 (fun r1 MC1 q1 => ?_)
  refine u_wd (List.nil_append _) ?_
  rw [← q1] at h1
  have hC1 : InvC MC1 := invC_fr hC (h1 0 10 (by omega)) (h1 0 11 (by omega)) (h1 0 12 (by omega))
  refine u_pop hX dL_law_579 rfl ?_
  refine u_aload (kk := 2) hX dL_law_580 rfl rfl ?_
  refine u_aload (kk := 0) hX dL_law_581 rfl rfl ?_
  refine u_iload (kk := 3) hX dL_law_582 rfl rfl ?_
  refine u_iconst (v := nI 1) hX dL_law_583 (by decide) ?_
  refine u_iadd hX dL_law_584 ?_
  refine u_top (y := nI (i + 1)) (nI_add _ _) ?_
  refine u_sld hX hSc (by omega) (by omega) dL_law_585 ?_
  refine u_aload (kk := 0) hX dL_law_586 rfl rfl ?_
  refine u_iload (kk := 3) hX dL_law_587 rfl rfl ?_
  refine u_iconst (v := nI 2) hX dL_law_588 (by decide) ?_
  refine u_iadd hX dL_law_589 ?_
  refine u_top (y := nI (i + 2)) (nI_add _ _) ?_
  refine u_sld hX hSc (by omega) (by omega) dL_law_590 ?_
  obtain ⟨p2, e2, h2⟩ := o_X10_cross MM (xs (i + 1)) (xs (i + 2))
  refine u_call hX _ (t_X10_cross (xs (i + 1)) (xs (i + 2)) MM p2 e2) mX10_cross lL_67 (by decide) (by decide) oM0 rfl rfl rfl rfl ⟨Nat.le_of_ble_eq_true rfl, Nat.le_of_ble_eq_true rfl⟩ rfl (Nat.le_of_ble_eq_true rfl) dL_law_591 (fun r2 MM1 q2 => ?_)
  rw [← q2] at h2
  have hM1 : InvM MM1 := ⟨(st_copy hM.1 (fun j _ => h2 1 j (by omega))), (st_copy hM.2.1 (fun j _ => h2 3 j (by omega))), (tp_fr hM.2.2.1 (h2 0 6 (by omega))), (gl_ext hM.2.2.2 (h2 0 15 (by omega)) (fun i => h2 12 i (by omega)) (fun i => h2 14 i (by omega)) (fun i => h2 15 i (by omega)) (fun i => h2 16 i (by omega)))⟩
  refine u_pop hX dL_law_594 rfl ?_
  refine u_goto (tgt := 1128) hX dL_law_595 (by decide) ?_
  exact hk MC1 MM1 hC1 hM1 ⟨((h1 19 1 (by omega)).trans (hR.1.trans (h2 0 6 (by omega)).symm)), (pp_fr hR.2.1 (h2 0 4 (by omega)) (fun p => h1 43 p (by omega))), (tt_fr hR.2.2.1 (Int.le_of_eq (congrArg Int32.toInt (h2 0 6 (by omega)))) (fun p => h1 20 p (by omega)) (fun p => h2 5 p (by omega))), (ff_fr hFF hC.1 (fdc_fr (fun a i z1 z2 => h1 a i (by omega))) (fdr_same (fun j hj => h2 1 j (by omega))) (fdc_fr (fun a i z1 z2 => h1 a i (by omega))) (fdr_cp (fun j hj => h2 3 j (by omega))) (h1 0 12 (by omega)) (h2 0 54 (by omega)) (h1 0 10 (by omega)) (h1 0 11 (by omega)) (fun c a i hc hq => h1 a i (by omega)) (fun a i hq => h2 a i (by omega)))⟩
set_option maxHeartbeats 4000000 in
theorem law_c12 {X : CU} {cI cZ cB : ClassId} {aC aM : Nat → Nat} {b L : Nat} {xs : Nat → Int32} (hX : OkU X code RL 4 cI cZ cB 300 600000 7302250) (hSc : ScU X b L xs) (hL : L ≤ 3072) {i : Nat} (hi : i + 6 ≤ L) {MC MM : Mem} (hC : InvC MC) (hM : InvM MM) (hR : Rel MC MM) (hk : ∀ MC' MM' : Mem, InvC MC' → InvM MM' → Rel MC' MM' → VU X (wl 60 aC (glC aC cI cZ cB) MC' ++ (wl 39 aM (glM aM cI cZ cB) MM' ++ [])) [(0, .ref b), (1, .ref (aC 0)), (2, .ref (aM 0)), (3, .int (nI i))] [] 1128 99 12419) : VU X (wl 60 aC (glC aC cI cZ cB) MC ++ (wl 39 aM (glM aM cI cZ cB) MM ++ [])) [(0, .ref b), (1, .ref (aC 0)), (2, .ref (aM 0)), (3, .int (nI i))] [] 598 99 12419 := by
  have hFF : FF MC MM := hR.2.2.2
  obtain ⟨FR, FF0, Ftb, hLc, hLr, hLq⟩ := hFF.2.2.2
  refine u_aload (kk := 1) hX dL_law_598 rfl rfl ?_
  refine u_aload (kk := 0) hX dL_law_599 rfl rfl ?_
  refine u_iload (kk := 3) hX dL_law_600 rfl rfl ?_
  refine u_iconst (v := nI 1) hX dL_law_601 (by decide) ?_
  refine u_iadd hX dL_law_602 ?_
  refine u_top (y := nI (i + 1)) (nI_add _ _) ?_
  refine u_sld hX hSc (by omega) (by omega) dL_law_603 ?_
  refine u_aload (kk := 0) hX dL_law_604 rfl rfl ?_
  refine u_iload (kk := 3) hX dL_law_605 rfl rfl ?_
  refine u_iconst (v := nI 2) hX dL_law_606 (by decide) ?_
  refine u_iadd hX dL_law_607 ?_
  refine u_top (y := nI (i + 2)) (nI_add _ _) ?_
  refine u_sld hX hSc (by omega) (by omega) dL_law_608 ?_
  obtain ⟨p1, e1, h1⟩ := o_X9_driest MC (xs (i + 1)) (xs (i + 2))
  refine u_wd (List.nil_append _).symm ?_
  refine u_call hX [] (t_X9_driest (xs (i + 1)) (xs (i + 2)) MC p1 e1) mX9_driest lL_68 (by decide) (by decide) oC0 rfl rfl rfl rfl ⟨Nat.le_of_ble_eq_true rfl, Nat.le_of_ble_eq_true rfl⟩ rfl (Nat.le_of_ble_eq_true rfl) dL_law_609 (fun r1 MC1 q1 => ?_)
  refine u_wd (List.nil_append _) ?_
  rw [← q1] at h1
  have hC1 : InvC MC1 := invC_fr hC (h1 0 10 (by omega)) (h1 0 11 (by omega)) (h1 0 12 (by omega))
  refine u_pop hX dL_law_612 rfl ?_
  refine u_aload (kk := 2) hX dL_law_613 rfl rfl ?_
  refine u_aload (kk := 0) hX dL_law_614 rfl rfl ?_
  refine u_iload (kk := 3) hX dL_law_615 rfl rfl ?_
  refine u_iconst (v := nI 1) hX dL_law_616 (by decide) ?_
  refine u_iadd hX dL_law_617 ?_
  refine u_top (y := nI (i + 1)) (nI_add _ _) ?_
  refine u_sld hX hSc (by omega) (by omega) dL_law_618 ?_
  refine u_aload (kk := 0) hX dL_law_619 rfl rfl ?_
  refine u_iload (kk := 3) hX dL_law_620 rfl rfl ?_
  refine u_iconst (v := nI 2) hX dL_law_621 (by decide) ?_
  refine u_iadd hX dL_law_622 ?_
  refine u_top (y := nI (i + 2)) (nI_add _ _) ?_
  refine u_sld hX hSc (by omega) (by omega) dL_law_623 ?_
  obtain ⟨p2, e2, h2⟩ := o_X10_driest MM (xs (i + 1)) (xs (i + 2)) hM.1
  refine u_call hX _ (t_X10_driest (xs (i + 1)) (xs (i + 2)) MM p2 e2) mX10_driest lL_71 (by decide) (by decide) oM0 rfl rfl rfl rfl ⟨Nat.le_of_ble_eq_true rfl, Nat.le_of_ble_eq_true rfl⟩ rfl (Nat.le_of_ble_eq_true rfl) dL_law_624 (fun r2 MM1 q2 => ?_)
  rw [← q2] at h2
  have hM1 : InvM MM1 := ⟨(st_copy hM.1 (fun j _ => h2 1 j (by omega))), (st_copy hM.2.1 (fun j _ => h2 3 j (by omega))), (tp_fr hM.2.2.1 (h2 0 6 (by omega))), (gl_ext hM.2.2.2 (h2 0 15 (by omega)) (fun i => h2 12 i (by omega)) (fun i => h2 14 i (by omega)) (fun i => h2 15 i (by omega)) (fun i => h2 16 i (by omega)))⟩
  refine u_pop hX dL_law_627 rfl ?_
  refine u_goto (tgt := 1128) hX dL_law_628 (by decide) ?_
  exact hk MC1 MM1 hC1 hM1 ⟨((h1 19 1 (by omega)).trans (hR.1.trans (h2 0 6 (by omega)).symm)), (pp_fr hR.2.1 (h2 0 4 (by omega)) (fun p => h1 43 p (by omega))), (tt_fr hR.2.2.1 (Int.le_of_eq (congrArg Int32.toInt (h2 0 6 (by omega)))) (fun p => h1 20 p (by omega)) (fun p => h2 5 p (by omega))), (ff_fr hFF hC.1 (fdc_fr (fun a i z1 z2 => h1 a i (by omega))) (fdr_same (fun j hj => h2 1 j (by omega))) (fdc_fr (fun a i z1 z2 => h1 a i (by omega))) (fdr_cp (fun j hj => h2 3 j (by omega))) (h1 0 12 (by omega)) (h2 0 54 (by omega)) (h1 0 10 (by omega)) (h1 0 11 (by omega)) (fun c a i hc hq => h1 a i (by omega)) (fun a i hq => h2 a i (by omega)))⟩
set_option maxHeartbeats 4000000 in
theorem law_c13 {X : CU} {cI cZ cB : ClassId} {aC aM : Nat → Nat} {b L : Nat} {xs : Nat → Int32} (hX : OkU X code RL 4 cI cZ cB 300 600000 7302250) (hSc : ScU X b L xs) (hL : L ≤ 3072) {i : Nat} (hi : i + 6 ≤ L) {MC MM : Mem} (hC : InvC MC) (hM : InvM MM) (hR : Rel MC MM) (hk : ∀ MC' MM' : Mem, InvC MC' → InvM MM' → Rel MC' MM' → VU X (wl 60 aC (glC aC cI cZ cB) MC' ++ (wl 39 aM (glM aM cI cZ cB) MM' ++ [])) [(0, .ref b), (1, .ref (aC 0)), (2, .ref (aM 0)), (3, .int (nI i))] [] 1128 99 12419) : VU X (wl 60 aC (glC aC cI cZ cB) MC ++ (wl 39 aM (glM aM cI cZ cB) MM ++ [])) [(0, .ref b), (1, .ref (aC 0)), (2, .ref (aM 0)), (3, .int (nI i))] [] 631 99 12419 := by
  have hFF : FF MC MM := hR.2.2.2
  obtain ⟨FR, FF0, Ftb, hLc, hLr, hLq⟩ := hFF.2.2.2
  refine u_aload (kk := 1) hX dL_law_631 rfl rfl ?_
  obtain ⟨p1, e1, h1⟩ := o_X9_leastStride MC
  refine u_wd (List.nil_append _).symm ?_
  refine u_call hX [] (t_X9_leastStride MC p1 e1) mX9_leastStride lL_72 (by decide) (by decide) oC0 rfl rfl rfl rfl ⟨Nat.le_of_ble_eq_true rfl, Nat.le_of_ble_eq_true rfl⟩ rfl (Nat.le_of_ble_eq_true rfl) dL_law_632 (fun r1 MC1 q1 => ?_)
  refine u_wd (List.nil_append _) ?_
  rw [← q1] at h1
  have hC1 : InvC MC1 := invC_fr hC (h1 0 10 (by omega)) (h1 0 11 (by omega)) (h1 0 12 (by omega))
  refine u_pop hX dL_law_635 rfl ?_
  refine u_aload (kk := 2) hX dL_law_636 rfl rfl ?_
  obtain ⟨p2, e2, h2⟩ := o_X10_leastStride MM
  refine u_call hX _ (t_X10_leastStride MM p2 e2) mX10_leastStride lL_76 (by decide) (by decide) oM0 rfl rfl rfl rfl ⟨Nat.le_of_ble_eq_true rfl, Nat.le_of_ble_eq_true rfl⟩ rfl (Nat.le_of_ble_eq_true rfl) dL_law_637 (fun r2 MM1 q2 => ?_)
  rw [← q2] at h2
  have hM1 : InvM MM1 := ⟨(st_copy hM.1 (fun j _ => h2 1 j (by omega))), (st_copy hM.2.1 (fun j _ => h2 3 j (by omega))), (tp_fr hM.2.2.1 (h2 0 6 (by omega))), (gl_ext hM.2.2.2 (h2 0 15 (by omega)) (fun i => h2 12 i (by omega)) (fun i => h2 14 i (by omega)) (fun i => h2 15 i (by omega)) (fun i => h2 16 i (by omega)))⟩
  refine u_pop hX dL_law_640 rfl ?_
  refine u_goto (tgt := 1128) hX dL_law_641 (by decide) ?_
  exact hk MC1 MM1 hC1 hM1 ⟨((h1 19 1 (by omega)).trans (hR.1.trans (h2 0 6 (by omega)).symm)), (pp_fr hR.2.1 (h2 0 4 (by omega)) (fun p => h1 43 p (by omega))), (tt_fr hR.2.2.1 (Int.le_of_eq (congrArg Int32.toInt (h2 0 6 (by omega)))) (fun p => h1 20 p (by omega)) (fun p => h2 5 p (by omega))), (ff_fr hFF hC.1 (fdc_fr (fun a i z1 z2 => h1 a i (by omega))) (fdr_same (fun j hj => h2 1 j (by omega))) (fdc_fr (fun a i z1 z2 => h1 a i (by omega))) (fdr_cp (fun j hj => h2 3 j (by omega))) (h1 0 12 (by omega)) (h2 0 54 (by omega)) (h1 0 10 (by omega)) (h1 0 11 (by omega)) (fun c a i hc hq => h1 a i (by omega)) (fun a i hq => h2 a i (by omega)))⟩
set_option maxHeartbeats 4000000 in
theorem law_c14 {X : CU} {cI cZ cB : ClassId} {aC aM : Nat → Nat} {b L : Nat} {xs : Nat → Int32} (hX : OkU X code RL 4 cI cZ cB 300 600000 7302250) (hSc : ScU X b L xs) (hL : L ≤ 3072) {i : Nat} (hi : i + 6 ≤ L) {MC MM : Mem} (hC : InvC MC) (hM : InvM MM) (hR : Rel MC MM) (hk : ∀ MC' MM' : Mem, InvC MC' → InvM MM' → Rel MC' MM' → VU X (wl 60 aC (glC aC cI cZ cB) MC' ++ (wl 39 aM (glM aM cI cZ cB) MM' ++ [])) [(0, .ref b), (1, .ref (aC 0)), (2, .ref (aM 0)), (3, .int (nI i))] [] 1128 99 12419) : VU X (wl 60 aC (glC aC cI cZ cB) MC ++ (wl 39 aM (glM aM cI cZ cB) MM ++ [])) [(0, .ref b), (1, .ref (aC 0)), (2, .ref (aM 0)), (3, .int (nI i))] [] 644 99 12419 := by
  have hFF : FF MC MM := hR.2.2.2
  obtain ⟨FR, FF0, Ftb, hLc, hLr, hLq⟩ := hFF.2.2.2
  refine u_aload (kk := 1) hX dL_law_644 rfl rfl ?_
  refine u_aload (kk := 0) hX dL_law_645 rfl rfl ?_
  refine u_iload (kk := 3) hX dL_law_646 rfl rfl ?_
  refine u_iconst (v := nI 1) hX dL_law_647 (by decide) ?_
  refine u_iadd hX dL_law_648 ?_
  refine u_top (y := nI (i + 1)) (nI_add _ _) ?_
  refine u_sld hX hSc (by omega) (by omega) dL_law_649 ?_
  obtain ⟨p1, e1, h1⟩ := o_X9_howFar MC (xs (i + 1))
  refine u_wd (List.nil_append _).symm ?_
  refine u_call hX [] (t_X9_howFar (xs (i + 1)) MC p1 e1) mX9_howFar lL_77 (by decide) (by decide) oC0 rfl rfl rfl rfl ⟨Nat.le_of_ble_eq_true rfl, Nat.le_of_ble_eq_true rfl⟩ rfl (Nat.le_of_ble_eq_true rfl) dL_law_650 (fun r1 MC1 q1 => ?_)
  refine u_wd (List.nil_append _) ?_
  rw [← q1] at h1
  have hC1 : InvC MC1 := invC_fr hC (h1 0 10 (by omega)) (h1 0 11 (by omega)) (h1 0 12 (by omega))
  refine u_pop hX dL_law_653 rfl ?_
  refine u_aload (kk := 2) hX dL_law_654 rfl rfl ?_
  refine u_aload (kk := 0) hX dL_law_655 rfl rfl ?_
  refine u_iload (kk := 3) hX dL_law_656 rfl rfl ?_
  refine u_iconst (v := nI 1) hX dL_law_657 (by decide) ?_
  refine u_iadd hX dL_law_658 ?_
  refine u_top (y := nI (i + 1)) (nI_add _ _) ?_
  refine u_sld hX hSc (by omega) (by omega) dL_law_659 ?_
  obtain ⟨p2, e2, h2⟩ := o_X10_howFar MM (xs (i + 1))
  refine u_call hX _ (t_X10_howFar (xs (i + 1)) MM p2 e2) mX10_howFar lL_80 (by decide) (by decide) oM0 rfl rfl rfl rfl ⟨Nat.le_of_ble_eq_true rfl, Nat.le_of_ble_eq_true rfl⟩ rfl (Nat.le_of_ble_eq_true rfl) dL_law_660 (fun r2 MM1 q2 => ?_)
  rw [← q2] at h2
  have hM1 : InvM MM1 := ⟨(st_copy hM.1 (fun j _ => h2 1 j (by omega))), (st_copy hM.2.1 (fun j _ => h2 3 j (by omega))), (tp_fr hM.2.2.1 (h2 0 6 (by omega))), (gl_ext hM.2.2.2 (h2 0 15 (by omega)) (fun i => h2 12 i (by omega)) (fun i => h2 14 i (by omega)) (fun i => h2 15 i (by omega)) (fun i => h2 16 i (by omega)))⟩
  refine u_pop hX dL_law_663 rfl ?_
  refine u_goto (tgt := 1128) hX dL_law_664 (by decide) ?_
  exact hk MC1 MM1 hC1 hM1 ⟨((h1 19 1 (by omega)).trans (hR.1.trans (h2 0 6 (by omega)).symm)), (pp_fr hR.2.1 (h2 0 4 (by omega)) (fun p => h1 43 p (by omega))), (tt_fr hR.2.2.1 (Int.le_of_eq (congrArg Int32.toInt (h2 0 6 (by omega)))) (fun p => h1 20 p (by omega)) (fun p => h2 5 p (by omega))), (ff_fr hFF hC.1 (fdc_fr (fun a i z1 z2 => h1 a i (by omega))) (fdr_same (fun j hj => h2 1 j (by omega))) (fdc_fr (fun a i z1 z2 => h1 a i (by omega))) (fdr_cp (fun j hj => h2 3 j (by omega))) (h1 0 12 (by omega)) (h2 0 54 (by omega)) (h1 0 10 (by omega)) (h1 0 11 (by omega)) (fun c a i hc hq => h1 a i (by omega)) (fun a i hq => h2 a i (by omega)))⟩
set_option maxHeartbeats 4000000 in
theorem law_c15 {X : CU} {cI cZ cB : ClassId} {aC aM : Nat → Nat} {b L : Nat} {xs : Nat → Int32} (hX : OkU X code RL 4 cI cZ cB 300 600000 7302250) (hSc : ScU X b L xs) (hL : L ≤ 3072) {i : Nat} (hi : i + 6 ≤ L) {MC MM : Mem} (hC : InvC MC) (hM : InvM MM) (hR : Rel MC MM) (hk : ∀ MC' MM' : Mem, InvC MC' → InvM MM' → Rel MC' MM' → VU X (wl 60 aC (glC aC cI cZ cB) MC' ++ (wl 39 aM (glM aM cI cZ cB) MM' ++ [])) [(0, .ref b), (1, .ref (aC 0)), (2, .ref (aM 0)), (3, .int (nI i))] [] 1128 99 12419) : VU X (wl 60 aC (glC aC cI cZ cB) MC ++ (wl 39 aM (glM aM cI cZ cB) MM ++ [])) [(0, .ref b), (1, .ref (aC 0)), (2, .ref (aM 0)), (3, .int (nI i))] [] 667 99 12419 := by
  have hFF : FF MC MM := hR.2.2.2
  obtain ⟨FR, FF0, Ftb, hLc, hLr, hLq⟩ := hFF.2.2.2
  refine u_aload (kk := 1) hX dL_law_667 rfl rfl ?_
  refine u_aload (kk := 0) hX dL_law_668 rfl rfl ?_
  refine u_iload (kk := 3) hX dL_law_669 rfl rfl ?_
  refine u_iconst (v := nI 1) hX dL_law_670 (by decide) ?_
  refine u_iadd hX dL_law_671 ?_
  refine u_top (y := nI (i + 1)) (nI_add _ _) ?_
  refine u_sld hX hSc (by omega) (by omega) dL_law_672 ?_
  obtain ⟨p1, e1, h1⟩ := o_X9_hold MC (xs (i + 1))
  refine u_wd (List.nil_append _).symm ?_
  refine u_call hX [] (t_X9_hold (xs (i + 1)) MC p1 e1) mX9_hold lL_81 (by decide) (by decide) oC0 rfl rfl rfl rfl ⟨Nat.le_of_ble_eq_true rfl, Nat.le_of_ble_eq_true rfl⟩ rfl (Nat.le_of_ble_eq_true rfl) dL_law_673 (fun r1 MC1 q1 => ?_)
  refine u_wd (List.nil_append _) ?_
  rw [← q1] at h1
  have hC1 : InvC MC1 := invC_fr hC (h1 0 10 (by omega)) (h1 0 11 (by omega)) (h1 0 12 (by omega))
  refine u_pop hX dL_law_676 rfl ?_
  refine u_aload (kk := 2) hX dL_law_677 rfl rfl ?_
  refine u_aload (kk := 0) hX dL_law_678 rfl rfl ?_
  refine u_iload (kk := 3) hX dL_law_679 rfl rfl ?_
  refine u_iconst (v := nI 1) hX dL_law_680 (by decide) ?_
  refine u_iadd hX dL_law_681 ?_
  refine u_top (y := nI (i + 1)) (nI_add _ _) ?_
  refine u_sld hX hSc (by omega) (by omega) dL_law_682 ?_
  obtain ⟨p2, e2, h2⟩ := o_X10_hold MM (xs (i + 1))
  refine u_call hX _ (t_X10_hold (xs (i + 1)) MM p2 e2) mX10_hold lL_84 (by decide) (by decide) oM0 rfl rfl rfl rfl ⟨Nat.le_of_ble_eq_true rfl, Nat.le_of_ble_eq_true rfl⟩ rfl (Nat.le_of_ble_eq_true rfl) dL_law_683 (fun r2 MM1 q2 => ?_)
  rw [← q2] at h2
  have hM1 : InvM MM1 := ⟨(st_copy hM.1 (fun j _ => h2 1 j (by omega))), (st_copy hM.2.1 (fun j _ => h2 3 j (by omega))), (tp_fr hM.2.2.1 (h2 0 6 (by omega))), (gl_ext hM.2.2.2 (h2 0 15 (by omega)) (fun i => h2 12 i (by omega)) (fun i => h2 14 i (by omega)) (fun i => h2 15 i (by omega)) (fun i => h2 16 i (by omega)))⟩
  refine u_pop hX dL_law_686 rfl ?_
  refine u_goto (tgt := 1128) hX dL_law_687 (by decide) ?_
  exact hk MC1 MM1 hC1 hM1 ⟨((h1 19 1 (by omega)).trans (hR.1.trans (h2 0 6 (by omega)).symm)), (pp_fr hR.2.1 (h2 0 4 (by omega)) (fun p => h1 43 p (by omega))), (tt_fr hR.2.2.1 (Int.le_of_eq (congrArg Int32.toInt (h2 0 6 (by omega)))) (fun p => h1 20 p (by omega)) (fun p => h2 5 p (by omega))), (ff_fr hFF hC.1 (fdc_fr (fun a i z1 z2 => h1 a i (by omega))) (fdr_same (fun j hj => h2 1 j (by omega))) (fdc_fr (fun a i z1 z2 => h1 a i (by omega))) (fdr_cp (fun j hj => h2 3 j (by omega))) (h1 0 12 (by omega)) (h2 0 54 (by omega)) (h1 0 10 (by omega)) (h1 0 11 (by omega)) (fun c a i hc hq => h1 a i (by omega)) (fun a i hq => h2 a i (by omega)))⟩
set_option maxHeartbeats 4000000 in
theorem law_c16 {X : CU} {cI cZ cB : ClassId} {aC aM : Nat → Nat} {b L : Nat} {xs : Nat → Int32} (hX : OkU X code RL 4 cI cZ cB 300 600000 7302250) (hSc : ScU X b L xs) (hL : L ≤ 3072) {i : Nat} (hi : i + 6 ≤ L) {MC MM : Mem} (hC : InvC MC) (hM : InvM MM) (hR : Rel MC MM) (hk : ∀ MC' MM' : Mem, InvC MC' → InvM MM' → Rel MC' MM' → VU X (wl 60 aC (glC aC cI cZ cB) MC' ++ (wl 39 aM (glM aM cI cZ cB) MM' ++ [])) [(0, .ref b), (1, .ref (aC 0)), (2, .ref (aM 0)), (3, .int (nI i))] [] 1128 99 12419) : VU X (wl 60 aC (glC aC cI cZ cB) MC ++ (wl 39 aM (glM aM cI cZ cB) MM ++ [])) [(0, .ref b), (1, .ref (aC 0)), (2, .ref (aM 0)), (3, .int (nI i))] [] 690 99 12419 := by
  have hFF : FF MC MM := hR.2.2.2
  obtain ⟨FR, FF0, Ftb, hLc, hLr, hLq⟩ := hFF.2.2.2
  refine u_aload (kk := 1) hX dL_law_690 rfl rfl ?_
  refine u_aload (kk := 0) hX dL_law_691 rfl rfl ?_
  refine u_iload (kk := 3) hX dL_law_692 rfl rfl ?_
  refine u_iconst (v := nI 1) hX dL_law_693 (by decide) ?_
  refine u_iadd hX dL_law_694 ?_
  refine u_top (y := nI (i + 1)) (nI_add _ _) ?_
  refine u_sld hX hSc (by omega) (by omega) dL_law_695 ?_
  refine u_aload (kk := 0) hX dL_law_696 rfl rfl ?_
  refine u_iload (kk := 3) hX dL_law_697 rfl rfl ?_
  refine u_iconst (v := nI 2) hX dL_law_698 (by decide) ?_
  refine u_iadd hX dL_law_699 ?_
  refine u_top (y := nI (i + 2)) (nI_add _ _) ?_
  refine u_sld hX hSc (by omega) (by omega) dL_law_700 ?_
  obtain ⟨p1, e1, h1⟩ := o_X9_oneMore MC (xs (i + 1)) (xs (i + 2))
  refine u_wd (List.nil_append _).symm ?_
  refine u_call hX [] (t_X9_oneMore (xs (i + 1)) (xs (i + 2)) MC p1 e1) mX9_oneMore lL_85 (by decide) (by decide) oC0 rfl rfl rfl rfl ⟨Nat.le_of_ble_eq_true rfl, Nat.le_of_ble_eq_true rfl⟩ rfl (Nat.le_of_ble_eq_true rfl) dL_law_701 (fun r1 MC1 q1 => ?_)
  refine u_wd (List.nil_append _) ?_
  rw [← q1] at h1
  have hC1 : InvC MC1 := invC_fr hC (h1 0 10 (by omega)) (h1 0 11 (by omega)) (h1 0 12 (by omega))
  refine u_pop hX dL_law_704 rfl ?_
  refine u_aload (kk := 2) hX dL_law_705 rfl rfl ?_
  refine u_aload (kk := 0) hX dL_law_706 rfl rfl ?_
  refine u_iload (kk := 3) hX dL_law_707 rfl rfl ?_
  refine u_iconst (v := nI 1) hX dL_law_708 (by decide) ?_
  refine u_iadd hX dL_law_709 ?_
  refine u_top (y := nI (i + 1)) (nI_add _ _) ?_
  refine u_sld hX hSc (by omega) (by omega) dL_law_710 ?_
  refine u_aload (kk := 0) hX dL_law_711 rfl rfl ?_
  refine u_iload (kk := 3) hX dL_law_712 rfl rfl ?_
  refine u_iconst (v := nI 2) hX dL_law_713 (by decide) ?_
  refine u_iadd hX dL_law_714 ?_
  refine u_top (y := nI (i + 2)) (nI_add _ _) ?_
  refine u_sld hX hSc (by omega) (by omega) dL_law_715 ?_
  obtain ⟨p2, e2, h2⟩ := o_X10_oneMore MM (xs (i + 1)) (xs (i + 2))
  refine u_call hX _ (t_X10_oneMore (xs (i + 1)) (xs (i + 2)) MM p2 e2) mX10_oneMore lL_88 (by decide) (by decide) oM0 rfl rfl rfl rfl ⟨Nat.le_of_ble_eq_true rfl, Nat.le_of_ble_eq_true rfl⟩ rfl (Nat.le_of_ble_eq_true rfl) dL_law_716 (fun r2 MM1 q2 => ?_)
  rw [← q2] at h2
  have hM1 : InvM MM1 := ⟨(st_copy hM.1 (fun j _ => h2 1 j (by omega))), (st_copy hM.2.1 (fun j _ => h2 3 j (by omega))), (tp_fr hM.2.2.1 (h2 0 6 (by omega))), (gl_ext hM.2.2.2 (h2 0 15 (by omega)) (fun i => h2 12 i (by omega)) (fun i => h2 14 i (by omega)) (fun i => h2 15 i (by omega)) (fun i => h2 16 i (by omega)))⟩
  refine u_pop hX dL_law_719 rfl ?_
  refine u_goto (tgt := 1128) hX dL_law_720 (by decide) ?_
  exact hk MC1 MM1 hC1 hM1 ⟨((h1 19 1 (by omega)).trans (hR.1.trans (h2 0 6 (by omega)).symm)), (pp_fr hR.2.1 (h2 0 4 (by omega)) (fun p => h1 43 p (by omega))), (tt_fr hR.2.2.1 (Int.le_of_eq (congrArg Int32.toInt (h2 0 6 (by omega)))) (fun p => h1 20 p (by omega)) (fun p => h2 5 p (by omega))), (ff_fr hFF hC.1 (fdc_fr (fun a i z1 z2 => h1 a i (by omega))) (fdr_same (fun j hj => h2 1 j (by omega))) (fdc_fr (fun a i z1 z2 => h1 a i (by omega))) (fdr_cp (fun j hj => h2 3 j (by omega))) (h1 0 12 (by omega)) (h2 0 54 (by omega)) (h1 0 10 (by omega)) (h1 0 11 (by omega)) (fun c a i hc hq => h1 a i (by omega)) (fun a i hq => h2 a i (by omega)))⟩
set_option maxHeartbeats 4000000 in
theorem law_c17 {X : CU} {cI cZ cB : ClassId} {aC aM : Nat → Nat} {b L : Nat} {xs : Nat → Int32} (hX : OkU X code RL 4 cI cZ cB 300 600000 7302250) (hSc : ScU X b L xs) (hL : L ≤ 3072) {i : Nat} (hi : i + 6 ≤ L) {MC MM : Mem} (hC : InvC MC) (hM : InvM MM) (hR : Rel MC MM) (hk : ∀ MC' MM' : Mem, InvC MC' → InvM MM' → Rel MC' MM' → VU X (wl 60 aC (glC aC cI cZ cB) MC' ++ (wl 39 aM (glM aM cI cZ cB) MM' ++ [])) [(0, .ref b), (1, .ref (aC 0)), (2, .ref (aM 0)), (3, .int (nI i))] [] 1128 99 12419) : VU X (wl 60 aC (glC aC cI cZ cB) MC ++ (wl 39 aM (glM aM cI cZ cB) MM ++ [])) [(0, .ref b), (1, .ref (aC 0)), (2, .ref (aM 0)), (3, .int (nI i))] [] 723 99 12419 := by
  have hFF : FF MC MM := hR.2.2.2
  obtain ⟨FR, FF0, Ftb, hLc, hLr, hLq⟩ := hFF.2.2.2
  refine u_aload (kk := 1) hX dL_law_723 rfl rfl ?_
  refine u_aload (kk := 0) hX dL_law_724 rfl rfl ?_
  refine u_iload (kk := 3) hX dL_law_725 rfl rfl ?_
  refine u_iconst (v := nI 1) hX dL_law_726 (by decide) ?_
  refine u_iadd hX dL_law_727 ?_
  refine u_top (y := nI (i + 1)) (nI_add _ _) ?_
  refine u_sld hX hSc (by omega) (by omega) dL_law_728 ?_
  refine u_aload (kk := 0) hX dL_law_729 rfl rfl ?_
  refine u_iload (kk := 3) hX dL_law_730 rfl rfl ?_
  refine u_iconst (v := nI 2) hX dL_law_731 (by decide) ?_
  refine u_iadd hX dL_law_732 ?_
  refine u_top (y := nI (i + 2)) (nI_add _ _) ?_
  refine u_sld hX hSc (by omega) (by omega) dL_law_733 ?_
  obtain ⟨p1, e1, h1⟩ := o_X9_islands MC (xs (i + 1)) (xs (i + 2))
  refine u_wd (List.nil_append _).symm ?_
  refine u_call hX [] (t_X9_islands (xs (i + 1)) (xs (i + 2)) MC p1 e1) mX9_islands lL_89 (by decide) (by decide) oC0 rfl rfl rfl rfl ⟨Nat.le_of_ble_eq_true rfl, Nat.le_of_ble_eq_true rfl⟩ rfl (Nat.le_of_ble_eq_true rfl) dL_law_734 (fun r1 MC1 q1 => ?_)
  refine u_wd (List.nil_append _) ?_
  rw [← q1] at h1
  have hC1 : InvC MC1 := invC_fr hC (h1 0 10 (by omega)) (h1 0 11 (by omega)) (h1 0 12 (by omega))
  refine u_pop hX dL_law_737 rfl ?_
  refine u_aload (kk := 2) hX dL_law_738 rfl rfl ?_
  refine u_aload (kk := 0) hX dL_law_739 rfl rfl ?_
  refine u_iload (kk := 3) hX dL_law_740 rfl rfl ?_
  refine u_iconst (v := nI 1) hX dL_law_741 (by decide) ?_
  refine u_iadd hX dL_law_742 ?_
  refine u_top (y := nI (i + 1)) (nI_add _ _) ?_
  refine u_sld hX hSc (by omega) (by omega) dL_law_743 ?_
  refine u_aload (kk := 0) hX dL_law_744 rfl rfl ?_
  refine u_iload (kk := 3) hX dL_law_745 rfl rfl ?_
  refine u_iconst (v := nI 2) hX dL_law_746 (by decide) ?_
  refine u_iadd hX dL_law_747 ?_
  refine u_top (y := nI (i + 2)) (nI_add _ _) ?_
  refine u_sld hX hSc (by omega) (by omega) dL_law_748 ?_
  obtain ⟨p2, e2, h2⟩ := o_X10_islands MM (xs (i + 1)) (xs (i + 2))
  refine u_call hX _ (t_X10_islands (xs (i + 1)) (xs (i + 2)) MM p2 e2) mX10_islands lL_92 (by decide) (by decide) oM0 rfl rfl rfl rfl ⟨Nat.le_of_ble_eq_true rfl, Nat.le_of_ble_eq_true rfl⟩ rfl (Nat.le_of_ble_eq_true rfl) dL_law_749 (fun r2 MM1 q2 => ?_)
  rw [← q2] at h2
  have hM1 : InvM MM1 := ⟨(st_copy hM.1 (fun j _ => h2 1 j (by omega))), (st_copy hM.2.1 (fun j _ => h2 3 j (by omega))), (tp_fr hM.2.2.1 (h2 0 6 (by omega))), (gl_ext hM.2.2.2 (h2 0 15 (by omega)) (fun i => h2 12 i (by omega)) (fun i => h2 14 i (by omega)) (fun i => h2 15 i (by omega)) (fun i => h2 16 i (by omega)))⟩
  refine u_pop hX dL_law_752 rfl ?_
  refine u_goto (tgt := 1128) hX dL_law_753 (by decide) ?_
  exact hk MC1 MM1 hC1 hM1 ⟨((h1 19 1 (by omega)).trans (hR.1.trans (h2 0 6 (by omega)).symm)), (pp_fr hR.2.1 (h2 0 4 (by omega)) (fun p => h1 43 p (by omega))), (tt_fr hR.2.2.1 (Int.le_of_eq (congrArg Int32.toInt (h2 0 6 (by omega)))) (fun p => h1 20 p (by omega)) (fun p => h2 5 p (by omega))), (ff_fr hFF hC.1 (fdc_fr (fun a i z1 z2 => h1 a i (by omega))) (fdr_same (fun j hj => h2 1 j (by omega))) (fdc_fr (fun a i z1 z2 => h1 a i (by omega))) (fdr_cp (fun j hj => h2 3 j (by omega))) (h1 0 12 (by omega)) (h2 0 54 (by omega)) (h1 0 10 (by omega)) (h1 0 11 (by omega)) (fun c a i hc hq => h1 a i (by omega)) (fun a i hq => h2 a i (by omega)))⟩
set_option maxHeartbeats 4000000 in
theorem law_c18 {X : CU} {cI cZ cB : ClassId} {aC aM : Nat → Nat} {b L : Nat} {xs : Nat → Int32} (hX : OkU X code RL 4 cI cZ cB 300 600000 7302250) (hSc : ScU X b L xs) (hL : L ≤ 3072) {i : Nat} (hi : i + 6 ≤ L) {MC MM : Mem} (hC : InvC MC) (hM : InvM MM) (hR : Rel MC MM) (hk : ∀ MC' MM' : Mem, InvC MC' → InvM MM' → Rel MC' MM' → VU X (wl 60 aC (glC aC cI cZ cB) MC' ++ (wl 39 aM (glM aM cI cZ cB) MM' ++ [])) [(0, .ref b), (1, .ref (aC 0)), (2, .ref (aM 0)), (3, .int (nI i))] [] 1128 99 12419) : VU X (wl 60 aC (glC aC cI cZ cB) MC ++ (wl 39 aM (glM aM cI cZ cB) MM ++ [])) [(0, .ref b), (1, .ref (aC 0)), (2, .ref (aM 0)), (3, .int (nI i))] [] 756 99 12419 := by
  have hFF : FF MC MM := hR.2.2.2
  obtain ⟨FR, FF0, Ftb, hLc, hLr, hLq⟩ := hFF.2.2.2
  refine u_aload (kk := 1) hX dL_law_756 rfl rfl ?_
  refine u_aload (kk := 0) hX dL_law_757 rfl rfl ?_
  refine u_iload (kk := 3) hX dL_law_758 rfl rfl ?_
  refine u_iconst (v := nI 1) hX dL_law_759 (by decide) ?_
  refine u_iadd hX dL_law_760 ?_
  refine u_top (y := nI (i + 1)) (nI_add _ _) ?_
  refine u_sld hX hSc (by omega) (by omega) dL_law_761 ?_
  refine u_aload (kk := 0) hX dL_law_762 rfl rfl ?_
  refine u_iload (kk := 3) hX dL_law_763 rfl rfl ?_
  refine u_iconst (v := nI 2) hX dL_law_764 (by decide) ?_
  refine u_iadd hX dL_law_765 ?_
  refine u_top (y := nI (i + 2)) (nI_add _ _) ?_
  refine u_sld hX hSc (by omega) (by omega) dL_law_766 ?_
  obtain ⟨p1, e1, h1⟩ := o_X9_key MC (xs (i + 1)) (xs (i + 2))
  refine u_wd (List.nil_append _).symm ?_
  refine u_call hX [] (t_X9_key (xs (i + 1)) (xs (i + 2)) MC p1 e1) mX9_key lL_93 (by decide) (by decide) oC0 rfl rfl rfl rfl ⟨Nat.le_of_ble_eq_true rfl, Nat.le_of_ble_eq_true rfl⟩ rfl (Nat.le_of_ble_eq_true rfl) dL_law_767 (fun r1 MC1 q1 => ?_)
  refine u_wd (List.nil_append _) ?_
  rw [← q1] at h1
  have hC1 : InvC MC1 := invC_fr hC (h1 0 10 (by omega)) (h1 0 11 (by omega)) (h1 0 12 (by omega))
  refine u_pop hX dL_law_770 rfl ?_
  refine u_aload (kk := 2) hX dL_law_771 rfl rfl ?_
  refine u_aload (kk := 0) hX dL_law_772 rfl rfl ?_
  refine u_iload (kk := 3) hX dL_law_773 rfl rfl ?_
  refine u_iconst (v := nI 1) hX dL_law_774 (by decide) ?_
  refine u_iadd hX dL_law_775 ?_
  refine u_top (y := nI (i + 1)) (nI_add _ _) ?_
  refine u_sld hX hSc (by omega) (by omega) dL_law_776 ?_
  refine u_aload (kk := 0) hX dL_law_777 rfl rfl ?_
  refine u_iload (kk := 3) hX dL_law_778 rfl rfl ?_
  refine u_iconst (v := nI 2) hX dL_law_779 (by decide) ?_
  refine u_iadd hX dL_law_780 ?_
  refine u_top (y := nI (i + 2)) (nI_add _ _) ?_
  refine u_sld hX hSc (by omega) (by omega) dL_law_781 ?_
  obtain ⟨p2, e2, h2⟩ := ox_X10_key MM (xs (i + 1)) (xs (i + 2)) hM.1
  refine u_call hX _ (t_X10_key (xs (i + 1)) (xs (i + 2)) MM p2 e2) mX10_key lL_96 (by decide) (by decide) oM0 rfl rfl rfl rfl ⟨Nat.le_of_ble_eq_true rfl, Nat.le_of_ble_eq_true rfl⟩ rfl (Nat.le_of_ble_eq_true rfl) dL_law_782 (fun r2 MM1 q2 => ?_)
  rw [← q2] at h2
  have hM1 : InvM MM1 := ⟨h2.2.1, (st_copy hM.2.1 (fun j _ => h2.1 3 j (by omega))), (tp_fr hM.2.2.1 (h2.1 0 6 (by omega))), (gl_ext hM.2.2.2 (h2.1 0 15 (by omega)) (fun i => h2.1 12 i (by omega)) (fun i => h2.1 14 i (by omega)) (fun i => h2.1 15 i (by omega)) (fun i => h2.1 16 i (by omega)))⟩
  refine u_pop hX dL_law_785 rfl ?_
  refine u_goto (tgt := 1128) hX dL_law_786 (by decide) ?_
  exact hk MC1 MM1 hC1 hM1 ⟨((h1 19 1 (by omega)).trans (hR.1.trans (h2.1 0 6 (by omega)).symm)), (pp_fr hR.2.1 (h2.1 0 4 (by omega)) (fun p => h1 43 p (by omega))), (tt_fr hR.2.2.1 (Int.le_of_eq (congrArg Int32.toInt (h2.1 0 6 (by omega)))) (fun p => h1 20 p (by omega)) (fun p => h2.1 5 p (by omega))), (ff_fr hFF hC.1 (fdc_fr (fun a i z1 z2 => h1 a i (by omega))) (h2.2.2) (fdc_fr (fun a i z1 z2 => h1 a i (by omega))) (fdr_cp (fun j hj => h2.1 3 j (by omega))) (h1 0 12 (by omega)) (h2.1 0 54 (by omega)) (h1 0 10 (by omega)) (h1 0 11 (by omega)) (fun c a i hc hq => h1 a i (by omega)) (fun a i hq => h2.1 a i (by omega)))⟩
set_option maxHeartbeats 4000000 in
theorem law_c19 {X : CU} {cI cZ cB : ClassId} {aC aM : Nat → Nat} {b L : Nat} {xs : Nat → Int32} (hX : OkU X code RL 4 cI cZ cB 300 600000 7302250) (hSc : ScU X b L xs) (hL : L ≤ 3072) {i : Nat} (hi : i + 6 ≤ L) {MC MM : Mem} (hC : InvC MC) (hM : InvM MM) (hR : Rel MC MM) (hk : ∀ MC' MM' : Mem, InvC MC' → InvM MM' → Rel MC' MM' → VU X (wl 60 aC (glC aC cI cZ cB) MC' ++ (wl 39 aM (glM aM cI cZ cB) MM' ++ [])) [(0, .ref b), (1, .ref (aC 0)), (2, .ref (aM 0)), (3, .int (nI i))] [] 1128 99 12419) : VU X (wl 60 aC (glC aC cI cZ cB) MC ++ (wl 39 aM (glM aM cI cZ cB) MM ++ [])) [(0, .ref b), (1, .ref (aC 0)), (2, .ref (aM 0)), (3, .int (nI i))] [] 789 99 12419 := by
  have hFF : FF MC MM := hR.2.2.2
  obtain ⟨FR, FF0, Ftb, hLc, hLr, hLq⟩ := hFF.2.2.2
  refine u_aload (kk := 1) hX dL_law_789 rfl rfl ?_
  refine u_aload (kk := 0) hX dL_law_790 rfl rfl ?_
  refine u_iload (kk := 3) hX dL_law_791 rfl rfl ?_
  refine u_iconst (v := nI 1) hX dL_law_792 (by decide) ?_
  refine u_iadd hX dL_law_793 ?_
  refine u_top (y := nI (i + 1)) (nI_add _ _) ?_
  refine u_sld hX hSc (by omega) (by omega) dL_law_794 ?_
  refine u_aload (kk := 0) hX dL_law_795 rfl rfl ?_
  refine u_iload (kk := 3) hX dL_law_796 rfl rfl ?_
  refine u_iconst (v := nI 2) hX dL_law_797 (by decide) ?_
  refine u_iadd hX dL_law_798 ?_
  refine u_top (y := nI (i + 2)) (nI_add _ _) ?_
  refine u_sld hX hSc (by omega) (by omega) dL_law_799 ?_
  refine u_aload (kk := 0) hX dL_law_800 rfl rfl ?_
  refine u_iload (kk := 3) hX dL_law_801 rfl rfl ?_
  refine u_iconst (v := nI 3) hX dL_law_802 (by decide) ?_
  refine u_iadd hX dL_law_803 ?_
  refine u_top (y := nI (i + 3)) (nI_add _ _) ?_
  refine u_sld hX hSc (by omega) (by omega) dL_law_804 ?_
  obtain ⟨p1, e1, h1⟩ := o_X9_meet MC (xs (i + 1)) (xs (i + 2)) (xs (i + 3))
  refine u_wd (List.nil_append _).symm ?_
  refine u_call hX [] (t_X9_meet (xs (i + 1)) (xs (i + 2)) (xs (i + 3)) MC p1 e1) mX9_meet lL_97 (by decide) (by decide) oC0 rfl rfl rfl rfl ⟨Nat.le_of_ble_eq_true rfl, Nat.le_of_ble_eq_true rfl⟩ rfl (Nat.le_of_ble_eq_true rfl) dL_law_805 (fun r1 MC1 q1 => ?_)
  refine u_wd (List.nil_append _) ?_
  rw [← q1] at h1
  have hC1 : InvC MC1 := invC_fr hC (h1 0 10 (by omega)) (h1 0 11 (by omega)) (h1 0 12 (by omega))
  refine u_pop hX dL_law_808 rfl ?_
  refine u_aload (kk := 2) hX dL_law_809 rfl rfl ?_
  refine u_aload (kk := 0) hX dL_law_810 rfl rfl ?_
  refine u_iload (kk := 3) hX dL_law_811 rfl rfl ?_
  refine u_iconst (v := nI 1) hX dL_law_812 (by decide) ?_
  refine u_iadd hX dL_law_813 ?_
  refine u_top (y := nI (i + 1)) (nI_add _ _) ?_
  refine u_sld hX hSc (by omega) (by omega) dL_law_814 ?_
  refine u_aload (kk := 0) hX dL_law_815 rfl rfl ?_
  refine u_iload (kk := 3) hX dL_law_816 rfl rfl ?_
  refine u_iconst (v := nI 2) hX dL_law_817 (by decide) ?_
  refine u_iadd hX dL_law_818 ?_
  refine u_top (y := nI (i + 2)) (nI_add _ _) ?_
  refine u_sld hX hSc (by omega) (by omega) dL_law_819 ?_
  refine u_aload (kk := 0) hX dL_law_820 rfl rfl ?_
  refine u_iload (kk := 3) hX dL_law_821 rfl rfl ?_
  refine u_iconst (v := nI 3) hX dL_law_822 (by decide) ?_
  refine u_iadd hX dL_law_823 ?_
  refine u_top (y := nI (i + 3)) (nI_add _ _) ?_
  refine u_sld hX hSc (by omega) (by omega) dL_law_824 ?_
  obtain ⟨p2, e2, h2⟩ := o_X10_meet MM (xs (i + 1)) (xs (i + 2)) (xs (i + 3))
  refine u_call hX _ (t_X10_meet (xs (i + 1)) (xs (i + 2)) (xs (i + 3)) MM p2 e2) mX10_meet lL_101 (by decide) (by decide) oM0 rfl rfl rfl rfl ⟨Nat.le_of_ble_eq_true rfl, Nat.le_of_ble_eq_true rfl⟩ rfl (Nat.le_of_ble_eq_true rfl) dL_law_825 (fun r2 MM1 q2 => ?_)
  rw [← q2] at h2
  have hM1 : InvM MM1 := ⟨(st_copy hM.1 (fun j _ => h2 1 j (by omega))), (st_copy hM.2.1 (fun j _ => h2 3 j (by omega))), (tp_fr hM.2.2.1 (h2 0 6 (by omega))), (gl_ext hM.2.2.2 (h2 0 15 (by omega)) (fun i => h2 12 i (by omega)) (fun i => h2 14 i (by omega)) (fun i => h2 15 i (by omega)) (fun i => h2 16 i (by omega)))⟩
  refine u_pop hX dL_law_828 rfl ?_
  refine u_goto (tgt := 1128) hX dL_law_829 (by decide) ?_
  exact hk MC1 MM1 hC1 hM1 ⟨((h1 19 1 (by omega)).trans (hR.1.trans (h2 0 6 (by omega)).symm)), (pp_fr hR.2.1 (h2 0 4 (by omega)) (fun p => h1 43 p (by omega))), (tt_fr hR.2.2.1 (Int.le_of_eq (congrArg Int32.toInt (h2 0 6 (by omega)))) (fun p => h1 20 p (by omega)) (fun p => h2 5 p (by omega))), (ff_fr hFF hC.1 (fdc_fr (fun a i z1 z2 => h1 a i (by omega))) (fdr_same (fun j hj => h2 1 j (by omega))) (fdc_fr (fun a i z1 z2 => h1 a i (by omega))) (fdr_cp (fun j hj => h2 3 j (by omega))) (h1 0 12 (by omega)) (h2 0 54 (by omega)) (h1 0 10 (by omega)) (h1 0 11 (by omega)) (fun c a i hc hq => h1 a i (by omega)) (fun a i hq => h2 a i (by omega)))⟩
set_option maxHeartbeats 4000000 in
theorem law_c20 {X : CU} {cI cZ cB : ClassId} {aC aM : Nat → Nat} {b L : Nat} {xs : Nat → Int32} (hX : OkU X code RL 4 cI cZ cB 300 600000 7302250) (hSc : ScU X b L xs) (hL : L ≤ 3072) {i : Nat} (hi : i + 6 ≤ L) {MC MM : Mem} (hC : InvC MC) (hM : InvM MM) (hR : Rel MC MM) (hk : ∀ MC' MM' : Mem, InvC MC' → InvM MM' → Rel MC' MM' → VU X (wl 60 aC (glC aC cI cZ cB) MC' ++ (wl 39 aM (glM aM cI cZ cB) MM' ++ [])) [(0, .ref b), (1, .ref (aC 0)), (2, .ref (aM 0)), (3, .int (nI i))] [] 1128 99 12419) : VU X (wl 60 aC (glC aC cI cZ cB) MC ++ (wl 39 aM (glM aM cI cZ cB) MM ++ [])) [(0, .ref b), (1, .ref (aC 0)), (2, .ref (aM 0)), (3, .int (nI i))] [] 832 99 12419 := by
  have hFF : FF MC MM := hR.2.2.2
  obtain ⟨FR, FF0, Ftb, hLc, hLr, hLq⟩ := hFF.2.2.2
  refine u_aload (kk := 1) hX dL_law_832 rfl rfl ?_
  obtain ⟨p1, e1, h1⟩ := o_X9_market MC
  refine u_wd (List.nil_append _).symm ?_
  refine u_call hX [] (t_X9_market MC p1 e1) mX9_market lL_102 (by decide) (by decide) oC0 rfl rfl rfl rfl ⟨Nat.le_of_ble_eq_true rfl, Nat.le_of_ble_eq_true rfl⟩ rfl (Nat.le_of_ble_eq_true rfl) dL_law_833 (fun r1 MC1 q1 => ?_)
  refine u_wd (List.nil_append _) ?_
  rw [← q1] at h1
  have hC1 : InvC MC1 := invC_fr hC (h1 0 10 (by omega)) (h1 0 11 (by omega)) (h1 0 12 (by omega))
  refine u_pop hX dL_law_836 rfl ?_
  refine u_aload (kk := 2) hX dL_law_837 rfl rfl ?_
  obtain ⟨p2, e2, h2⟩ := o_X10_market MM
  refine u_call hX _ (t_X10_market MM p2 e2) mX10_market lL_105 (by decide) (by decide) oM0 rfl rfl rfl rfl ⟨Nat.le_of_ble_eq_true rfl, Nat.le_of_ble_eq_true rfl⟩ rfl (Nat.le_of_ble_eq_true rfl) dL_law_838 (fun r2 MM1 q2 => ?_)
  rw [← q2] at h2
  have hM1 : InvM MM1 := ⟨(st_copy hM.1 (fun j _ => h2 1 j (by omega))), (st_copy hM.2.1 (fun j _ => h2 3 j (by omega))), (tp_fr hM.2.2.1 (h2 0 6 (by omega))), (gl_ext hM.2.2.2 (h2 0 15 (by omega)) (fun i => h2 12 i (by omega)) (fun i => h2 14 i (by omega)) (fun i => h2 15 i (by omega)) (fun i => h2 16 i (by omega)))⟩
  refine u_pop hX dL_law_841 rfl ?_
  refine u_goto (tgt := 1128) hX dL_law_842 (by decide) ?_
  exact hk MC1 MM1 hC1 hM1 ⟨((h1 19 1 (by omega)).trans (hR.1.trans (h2 0 6 (by omega)).symm)), (pp_fr hR.2.1 (h2 0 4 (by omega)) (fun p => h1 43 p (by omega))), (tt_fr hR.2.2.1 (Int.le_of_eq (congrArg Int32.toInt (h2 0 6 (by omega)))) (fun p => h1 20 p (by omega)) (fun p => h2 5 p (by omega))), (ff_fr hFF hC.1 (fdc_fr (fun a i z1 z2 => h1 a i (by omega))) (fdr_same (fun j hj => h2 1 j (by omega))) (fdc_fr (fun a i z1 z2 => h1 a i (by omega))) (fdr_cp (fun j hj => h2 3 j (by omega))) (h1 0 12 (by omega)) (h2 0 54 (by omega)) (h1 0 10 (by omega)) (h1 0 11 (by omega)) (fun c a i hc hq => h1 a i (by omega)) (fun a i hq => h2 a i (by omega)))⟩
set_option maxHeartbeats 4000000 in
theorem law_c21 {X : CU} {cI cZ cB : ClassId} {aC aM : Nat → Nat} {b L : Nat} {xs : Nat → Int32} (hX : OkU X code RL 4 cI cZ cB 300 600000 7302250) (hSc : ScU X b L xs) (hL : L ≤ 3072) {i : Nat} (hi : i + 6 ≤ L) {MC MM : Mem} (hC : InvC MC) (hM : InvM MM) (hR : Rel MC MM) (hk : ∀ MC' MM' : Mem, InvC MC' → InvM MM' → Rel MC' MM' → VU X (wl 60 aC (glC aC cI cZ cB) MC' ++ (wl 39 aM (glM aM cI cZ cB) MM' ++ [])) [(0, .ref b), (1, .ref (aC 0)), (2, .ref (aM 0)), (3, .int (nI i))] [] 1128 99 12419) : VU X (wl 60 aC (glC aC cI cZ cB) MC ++ (wl 39 aM (glM aM cI cZ cB) MM ++ [])) [(0, .ref b), (1, .ref (aC 0)), (2, .ref (aM 0)), (3, .int (nI i))] [] 845 99 12419 := by
  have hFF : FF MC MM := hR.2.2.2
  obtain ⟨FR, FF0, Ftb, hLc, hLr, hLq⟩ := hFF.2.2.2
  refine u_aload (kk := 1) hX dL_law_845 rfl rfl ?_
  refine u_aload (kk := 0) hX dL_law_846 rfl rfl ?_
  refine u_iload (kk := 3) hX dL_law_847 rfl rfl ?_
  refine u_iconst (v := nI 1) hX dL_law_848 (by decide) ?_
  refine u_iadd hX dL_law_849 ?_
  refine u_top (y := nI (i + 1)) (nI_add _ _) ?_
  refine u_sld hX hSc (by omega) (by omega) dL_law_850 ?_
  obtain ⟨p1, e1, h1⟩ := o_X9_firstNight MC (xs (i + 1)) hC.1
  refine u_wd (List.nil_append _).symm ?_
  refine u_call hX [] (t_X9_firstNight (xs (i + 1)) MC p1 e1) mX9_firstNight lL_106 (by decide) (by decide) oC0 rfl rfl rfl rfl ⟨Nat.le_of_ble_eq_true rfl, Nat.le_of_ble_eq_true rfl⟩ rfl (Nat.le_of_ble_eq_true rfl) dL_law_851 (fun r1 MC1 q1 => ?_)
  refine u_wd (List.nil_append _) ?_
  rw [← q1] at h1
  have hC1 : InvC MC1 := invC_fr hC (h1 0 10 (by omega)) (h1 0 11 (by omega)) (h1 0 12 (by omega))
  refine u_pop hX dL_law_854 rfl ?_
  refine u_aload (kk := 2) hX dL_law_855 rfl rfl ?_
  refine u_aload (kk := 0) hX dL_law_856 rfl rfl ?_
  refine u_iload (kk := 3) hX dL_law_857 rfl rfl ?_
  refine u_iconst (v := nI 1) hX dL_law_858 (by decide) ?_
  refine u_iadd hX dL_law_859 ?_
  refine u_top (y := nI (i + 1)) (nI_add _ _) ?_
  refine u_sld hX hSc (by omega) (by omega) dL_law_860 ?_
  obtain ⟨p2, e2, h2⟩ := ox_X10_firstNight MM (xs (i + 1)) hM.1 hM.2.2.2
  refine u_call hX _ (t_X10_firstNight (xs (i + 1)) MM p2 e2) mX10_firstNight lL_109 (by decide) (by decide) oM0 rfl rfl rfl rfl ⟨Nat.le_of_ble_eq_true rfl, Nat.le_of_ble_eq_true rfl⟩ rfl (Nat.le_of_ble_eq_true rfl) dL_law_861 (fun r2 MM1 q2 => ?_)
  rw [← q2] at h2
  have hM1 : InvM MM1 := ⟨h2.2.1, (st_copy hM.2.1 (fun j _ => h2.1 3 j (by omega))), (tp_fr hM.2.2.1 (h2.1 0 6 (by omega))), (gl_ext hM.2.2.2 (h2.1 0 15 (by omega)) (fun i => h2.1 12 i (by omega)) (fun i => h2.1 14 i (by omega)) (fun i => h2.1 15 i (by omega)) (fun i => h2.1 16 i (by omega)))⟩
  refine u_pop hX dL_law_864 rfl ?_
  refine u_goto (tgt := 1128) hX dL_law_865 (by decide) ?_
  exact hk MC1 MM1 hC1 hM1 ⟨((h1 19 1 (by omega)).trans (hR.1.trans (h2.1 0 6 (by omega)).symm)), (pp_fr hR.2.1 (h2.1 0 4 (by omega)) (fun p => h1 43 p (by omega))), (tt_fr hR.2.2.1 (Int.le_of_eq (congrArg Int32.toInt (h2.1 0 6 (by omega)))) (fun p => h1 20 p (by omega)) (fun p => h2.1 5 p (by omega))), (ff_fr hFF hC.1 (fdc_fr (fun a i z1 z2 => h1 a i (by omega))) (h2.2.2) (fdc_fr (fun a i z1 z2 => h1 a i (by omega))) (fdr_cp (fun j hj => h2.1 3 j (by omega))) (h1 0 12 (by omega)) (h2.1 0 54 (by omega)) (h1 0 10 (by omega)) (h1 0 11 (by omega)) (fun c a i hc hq => h1 a i (by omega)) (fun a i hq => h2.1 a i (by omega)))⟩
set_option maxHeartbeats 4000000 in
theorem law_c22 {X : CU} {cI cZ cB : ClassId} {aC aM : Nat → Nat} {b L : Nat} {xs : Nat → Int32} (hX : OkU X code RL 4 cI cZ cB 300 600000 7302250) (hSc : ScU X b L xs) (hL : L ≤ 3072) {i : Nat} (hi : i + 6 ≤ L) {MC MM : Mem} (hC : InvC MC) (hM : InvM MM) (hR : Rel MC MM) (hk : ∀ MC' MM' : Mem, InvC MC' → InvM MM' → Rel MC' MM' → VU X (wl 60 aC (glC aC cI cZ cB) MC' ++ (wl 39 aM (glM aM cI cZ cB) MM' ++ [])) [(0, .ref b), (1, .ref (aC 0)), (2, .ref (aM 0)), (3, .int (nI i))] [] 1128 99 12419) : VU X (wl 60 aC (glC aC cI cZ cB) MC ++ (wl 39 aM (glM aM cI cZ cB) MM ++ [])) [(0, .ref b), (1, .ref (aC 0)), (2, .ref (aM 0)), (3, .int (nI i))] [] 868 99 12419 := by
  have hFF : FF MC MM := hR.2.2.2
  obtain ⟨FR, FF0, Ftb, hLc, hLr, hLq⟩ := hFF.2.2.2
  refine u_aload (kk := 1) hX dL_law_868 rfl rfl ?_
  refine u_aload (kk := 0) hX dL_law_869 rfl rfl ?_
  refine u_iload (kk := 3) hX dL_law_870 rfl rfl ?_
  refine u_iconst (v := nI 1) hX dL_law_871 (by decide) ?_
  refine u_iadd hX dL_law_872 ?_
  refine u_top (y := nI (i + 1)) (nI_add _ _) ?_
  refine u_sld hX hSc (by omega) (by omega) dL_law_873 ?_
  refine u_aload (kk := 0) hX dL_law_874 rfl rfl ?_
  refine u_iload (kk := 3) hX dL_law_875 rfl rfl ?_
  refine u_iconst (v := nI 2) hX dL_law_876 (by decide) ?_
  refine u_iadd hX dL_law_877 ?_
  refine u_top (y := nI (i + 2)) (nI_add _ _) ?_
  refine u_sld hX hSc (by omega) (by omega) dL_law_878 ?_
  refine u_aload (kk := 0) hX dL_law_879 rfl rfl ?_
  refine u_iload (kk := 3) hX dL_law_880 rfl rfl ?_
  refine u_iconst (v := nI 3) hX dL_law_881 (by decide) ?_
  refine u_iadd hX dL_law_882 ?_
  refine u_top (y := nI (i + 3)) (nI_add _ _) ?_
  refine u_sld hX hSc (by omega) (by omega) dL_law_883 ?_
  refine u_aload (kk := 0) hX dL_law_884 rfl rfl ?_
  refine u_iload (kk := 3) hX dL_law_885 rfl rfl ?_
  refine u_iconst (v := nI 4) hX dL_law_886 (by decide) ?_
  refine u_iadd hX dL_law_887 ?_
  refine u_top (y := nI (i + 4)) (nI_add _ _) ?_
  refine u_sld hX hSc (by omega) (by omega) dL_law_888 ?_
  obtain ⟨p1, e1, h1⟩ := o3_X9_walk MC (xs (i + 1)) (xs (i + 2)) (xs (i + 3)) (xs (i + 4))
  refine u_wd (List.nil_append _).symm ?_
  refine u_call hX [] (t_X9_walk (xs (i + 1)) (xs (i + 2)) (xs (i + 3)) (xs (i + 4)) MC p1 e1) mX9_walk lL_110 (by decide) (by decide) oC0 rfl rfl rfl rfl ⟨Nat.le_of_ble_eq_true rfl, Nat.le_of_ble_eq_true rfl⟩ rfl (Nat.le_of_ble_eq_true rfl) dL_law_889 (fun r1 MC1 q1 => ?_)
  refine u_wd (List.nil_append _) ?_
  rw [← q1] at h1
  have hC1 : InvC MC1 := invC_fr hC (h1.1 0 10 (by omega)) (h1.1 0 11 (by omega)) (h1.1 0 12 (by omega))
  refine u_pop hX dL_law_892 rfl ?_
  refine u_aload (kk := 2) hX dL_law_893 rfl rfl ?_
  refine u_aload (kk := 0) hX dL_law_894 rfl rfl ?_
  refine u_iload (kk := 3) hX dL_law_895 rfl rfl ?_
  refine u_iconst (v := nI 1) hX dL_law_896 (by decide) ?_
  refine u_iadd hX dL_law_897 ?_
  refine u_top (y := nI (i + 1)) (nI_add _ _) ?_
  refine u_sld hX hSc (by omega) (by omega) dL_law_898 ?_
  refine u_aload (kk := 0) hX dL_law_899 rfl rfl ?_
  refine u_iload (kk := 3) hX dL_law_900 rfl rfl ?_
  refine u_iconst (v := nI 2) hX dL_law_901 (by decide) ?_
  refine u_iadd hX dL_law_902 ?_
  refine u_top (y := nI (i + 2)) (nI_add _ _) ?_
  refine u_sld hX hSc (by omega) (by omega) dL_law_903 ?_
  refine u_aload (kk := 0) hX dL_law_904 rfl rfl ?_
  refine u_iload (kk := 3) hX dL_law_905 rfl rfl ?_
  refine u_iconst (v := nI 3) hX dL_law_906 (by decide) ?_
  refine u_iadd hX dL_law_907 ?_
  refine u_top (y := nI (i + 3)) (nI_add _ _) ?_
  refine u_sld hX hSc (by omega) (by omega) dL_law_908 ?_
  refine u_aload (kk := 0) hX dL_law_909 rfl rfl ?_
  refine u_iload (kk := 3) hX dL_law_910 rfl rfl ?_
  refine u_iconst (v := nI 4) hX dL_law_911 (by decide) ?_
  refine u_iadd hX dL_law_912 ?_
  refine u_top (y := nI (i + 4)) (nI_add _ _) ?_
  refine u_sld hX hSc (by omega) (by omega) dL_law_913 ?_
  obtain ⟨p2, e2, h2⟩ := o3_X10_walk MM (xs (i + 1)) (xs (i + 2)) (xs (i + 3)) (xs (i + 4)) hM.2.2.1
  refine u_call hX _ (t_X10_walk (xs (i + 1)) (xs (i + 2)) (xs (i + 3)) (xs (i + 4)) MM p2 e2) mX10_walk lL_114 (by decide) (by decide) oM0 rfl rfl rfl rfl ⟨Nat.le_of_ble_eq_true rfl, Nat.le_of_ble_eq_true rfl⟩ rfl (Nat.le_of_ble_eq_true rfl) dL_law_914 (fun r2 MM1 q2 => ?_)
  rw [← q2] at h2
  have hM1 : InvM MM1 := ⟨(st_copy hM.1 (fun j _ => h2.1 1 j (by omega))), (st_copy hM.2.1 (fun j _ => h2.1 3 j (by omega))), h2.2.1, (gl_ext hM.2.2.2 (h2.1 0 15 (by omega)) (fun i => h2.1 12 i (by omega)) (fun i => h2.1 14 i (by omega)) (fun i => h2.1 15 i (by omega)) (fun i => h2.1 16 i (by omega)))⟩
  refine u_pop hX dL_law_917 rfl ?_
  refine u_goto (tgt := 1128) hX dL_law_918 (by decide) ?_
  exact hk MC1 MM1 hC1 hM1 ⟨(sz_iff hR.1 (by rw [hR.1]; exact ⟨fun z => ⟨⟨z.1.1, (pp_bit hR.2.1 z.1.1).mp z.1.2⟩, z.2⟩, fun z => ⟨⟨z.1.1, (pp_bit hR.2.1 z.1.1).mpr z.1.2⟩, z.2⟩⟩) (h1.2) (h2.2.2)), (pp_fr hR.2.1 (h2.1 0 4 (by omega)) (fun p => h1.1 43 p (by omega))), (tt_fr hR.2.2.1 (sz_le hM.2.2.1.1 (h2.2.2)) (fun p => h1.1 20 p (by omega)) (fun p => h2.1 5 p (by omega))), (ff_fr hFF hC.1 (fdc_fr (fun a i z1 z2 => h1.1 a i (by omega))) (fdr_same (fun j hj => h2.1 1 j (by omega))) (fdc_fr (fun a i z1 z2 => h1.1 a i (by omega))) (fdr_cp (fun j hj => h2.1 3 j (by omega))) (h1.1 0 12 (by omega)) (h2.1 0 54 (by omega)) (h1.1 0 10 (by omega)) (h1.1 0 11 (by omega)) (fun c a i hc hq => h1.1 a i (by omega)) (fun a i hq => h2.1 a i (by omega)))⟩
set_option maxHeartbeats 4000000 in
theorem law_c23 {X : CU} {cI cZ cB : ClassId} {aC aM : Nat → Nat} {b L : Nat} {xs : Nat → Int32} (hX : OkU X code RL 4 cI cZ cB 300 600000 7302250) (hSc : ScU X b L xs) (hL : L ≤ 3072) {i : Nat} (hi : i + 6 ≤ L) {MC MM : Mem} (hC : InvC MC) (hM : InvM MM) (hR : Rel MC MM) (hk : ∀ MC' MM' : Mem, InvC MC' → InvM MM' → Rel MC' MM' → VU X (wl 60 aC (glC aC cI cZ cB) MC' ++ (wl 39 aM (glM aM cI cZ cB) MM' ++ [])) [(0, .ref b), (1, .ref (aC 0)), (2, .ref (aM 0)), (3, .int (nI i))] [] 1128 99 12419) : VU X (wl 60 aC (glC aC cI cZ cB) MC ++ (wl 39 aM (glM aM cI cZ cB) MM ++ [])) [(0, .ref b), (1, .ref (aC 0)), (2, .ref (aM 0)), (3, .int (nI i))] [] 921 99 12419 := by
  have hFF : FF MC MM := hR.2.2.2
  obtain ⟨FR, FF0, Ftb, hLc, hLr, hLq⟩ := hFF.2.2.2
  refine u_aload (kk := 1) hX dL_law_921 rfl rfl ?_
  refine u_aload (kk := 0) hX dL_law_922 rfl rfl ?_
  refine u_iload (kk := 3) hX dL_law_923 rfl rfl ?_
  refine u_iconst (v := nI 1) hX dL_law_924 (by decide) ?_
  refine u_iadd hX dL_law_925 ?_
  refine u_top (y := nI (i + 1)) (nI_add _ _) ?_
  refine u_sld hX hSc (by omega) (by omega) dL_law_926 ?_
  refine u_aload (kk := 0) hX dL_law_927 rfl rfl ?_
  refine u_iload (kk := 3) hX dL_law_928 rfl rfl ?_
  refine u_iconst (v := nI 2) hX dL_law_929 (by decide) ?_
  refine u_iadd hX dL_law_930 ?_
  refine u_top (y := nI (i + 2)) (nI_add _ _) ?_
  refine u_sld hX hSc (by omega) (by omega) dL_law_931 ?_
  obtain ⟨p1, e1, h1⟩ := o3_X9_chalk MC (xs (i + 1)) (xs (i + 2))
  refine u_wd (List.nil_append _).symm ?_
  refine u_call hX [] (t_X9_chalk (xs (i + 1)) (xs (i + 2)) MC p1 e1) mX9_chalk lL_115 (by decide) (by decide) oC0 rfl rfl rfl rfl ⟨Nat.le_of_ble_eq_true rfl, Nat.le_of_ble_eq_true rfl⟩ rfl (Nat.le_of_ble_eq_true rfl) dL_law_932 (fun r1 MC1 q1 => ?_)
  refine u_wd (List.nil_append _) ?_
  rw [← q1] at h1
  have hC1 : InvC MC1 := invC_fr hC (h1.1 0 10 (by omega)) (h1.1 0 11 (by omega)) (h1.1 0 12 (by omega))
  refine u_pop hX dL_law_935 rfl ?_
  refine u_aload (kk := 2) hX dL_law_936 rfl rfl ?_
  refine u_aload (kk := 0) hX dL_law_937 rfl rfl ?_
  refine u_iload (kk := 3) hX dL_law_938 rfl rfl ?_
  refine u_iconst (v := nI 1) hX dL_law_939 (by decide) ?_
  refine u_iadd hX dL_law_940 ?_
  refine u_top (y := nI (i + 1)) (nI_add _ _) ?_
  refine u_sld hX hSc (by omega) (by omega) dL_law_941 ?_
  refine u_aload (kk := 0) hX dL_law_942 rfl rfl ?_
  refine u_iload (kk := 3) hX dL_law_943 rfl rfl ?_
  refine u_iconst (v := nI 2) hX dL_law_944 (by decide) ?_
  refine u_iadd hX dL_law_945 ?_
  refine u_top (y := nI (i + 2)) (nI_add _ _) ?_
  refine u_sld hX hSc (by omega) (by omega) dL_law_946 ?_
  obtain ⟨p2, e2, h2⟩ := o3_X10_chalk MM (xs (i + 1)) (xs (i + 2)) hM.2.2.1
  refine u_call hX _ (t_X10_chalk (xs (i + 1)) (xs (i + 2)) MM p2 e2) mX10_chalk lL_118 (by decide) (by decide) oM0 rfl rfl rfl rfl ⟨Nat.le_of_ble_eq_true rfl, Nat.le_of_ble_eq_true rfl⟩ rfl (Nat.le_of_ble_eq_true rfl) dL_law_947 (fun r2 MM1 q2 => ?_)
  rw [← q2] at h2
  have hM1 : InvM MM1 := ⟨(st_copy hM.1 (fun j _ => h2.1 1 j (by omega))), (st_copy hM.2.1 (fun j _ => h2.1 3 j (by omega))), h2.2.1, (gl_ext hM.2.2.2 (h2.1 0 15 (by omega)) (fun i => h2.1 12 i (by omega)) (fun i => h2.1 14 i (by omega)) (fun i => h2.1 15 i (by omega)) (fun i => h2.1 16 i (by omega)))⟩
  refine u_pop hX dL_law_950 rfl ?_
  refine u_goto (tgt := 1128) hX dL_law_951 (by decide) ?_
  exact hk MC1 MM1 hC1 hM1 ⟨(sz_iff hR.1 (by rw [hR.1]) (h1.2) (h2.2.2)), (pp_fr hR.2.1 (h2.1 0 4 (by omega)) (fun p => h1.1 43 p (by omega))), (tt_fr hR.2.2.1 (sz_le hM.2.2.1.1 (h2.2.2)) (fun p => h1.1 20 p (by omega)) (fun p => h2.1 5 p (by omega))), (ff_fr hFF hC.1 (fdc_fr (fun a i z1 z2 => h1.1 a i (by omega))) (fdr_same (fun j hj => h2.1 1 j (by omega))) (fdc_fr (fun a i z1 z2 => h1.1 a i (by omega))) (fdr_cp (fun j hj => h2.1 3 j (by omega))) (h1.1 0 12 (by omega)) (h2.1 0 54 (by omega)) (h1.1 0 10 (by omega)) (h1.1 0 11 (by omega)) (fun c a i hc hq => h1.1 a i (by omega)) (fun a i hq => h2.1 a i (by omega)))⟩
set_option maxHeartbeats 4000000 in
theorem law_c24 {X : CU} {cI cZ cB : ClassId} {aC aM : Nat → Nat} {b L : Nat} {xs : Nat → Int32} (hX : OkU X code RL 4 cI cZ cB 300 600000 7302250) (hSc : ScU X b L xs) (hL : L ≤ 3072) {i : Nat} (hi : i + 6 ≤ L) {MC MM : Mem} (hC : InvC MC) (hM : InvM MM) (hR : Rel MC MM) (hk : ∀ MC' MM' : Mem, InvC MC' → InvM MM' → Rel MC' MM' → VU X (wl 60 aC (glC aC cI cZ cB) MC' ++ (wl 39 aM (glM aM cI cZ cB) MM' ++ [])) [(0, .ref b), (1, .ref (aC 0)), (2, .ref (aM 0)), (3, .int (nI i))] [] 1128 99 12419) : VU X (wl 60 aC (glC aC cI cZ cB) MC ++ (wl 39 aM (glM aM cI cZ cB) MM ++ [])) [(0, .ref b), (1, .ref (aC 0)), (2, .ref (aM 0)), (3, .int (nI i))] [] 954 99 12419 := by
  have hFF : FF MC MM := hR.2.2.2
  obtain ⟨FR, FF0, Ftb, hLc, hLr, hLq⟩ := hFF.2.2.2
  refine u_aload (kk := 1) hX dL_law_954 rfl rfl ?_
  refine u_aload (kk := 0) hX dL_law_955 rfl rfl ?_
  refine u_iload (kk := 3) hX dL_law_956 rfl rfl ?_
  refine u_iconst (v := nI 1) hX dL_law_957 (by decide) ?_
  refine u_iadd hX dL_law_958 ?_
  refine u_top (y := nI (i + 1)) (nI_add _ _) ?_
  refine u_sld hX hSc (by omega) (by omega) dL_law_959 ?_
  obtain ⟨p1, e1, h1⟩ := os_X9_shape MC (xs (i + 1)) (by rw [hFF.1.1]; exact hFF.1.2)
  refine u_wd (List.nil_append _).symm ?_
  refine u_call hX [] (t_X9_shape (xs (i + 1)) MC p1 e1) mX9_shape lL_119 (by decide) (by decide) oC0 rfl rfl rfl rfl ⟨Nat.le_of_ble_eq_true rfl, Nat.le_of_ble_eq_true rfl⟩ rfl (Nat.le_of_ble_eq_true rfl) dL_law_960 (fun r1 MC1 q1 => ?_)
  refine u_wd (List.nil_append _) ?_
  rw [← q1.1] at h1
  have hC1 : InvC MC1 := by rw [q1.2]; exact hC
  refine u_aload (kk := 2) hX dL_law_963 rfl rfl ?_
  refine u_aload (kk := 0) hX dL_law_964 rfl rfl ?_
  refine u_iload (kk := 3) hX dL_law_965 rfl rfl ?_
  refine u_iconst (v := nI 1) hX dL_law_966 (by decide) ?_
  refine u_iadd hX dL_law_967 ?_
  refine u_top (y := nI (i + 1)) (nI_add _ _) ?_
  refine u_sld hX hSc (by omega) (by omega) dL_law_968 ?_
  obtain ⟨p2, e2, h2⟩ := os_X10_shape MM (xs (i + 1)) (st_y hM.1) hFF.1.2
  refine u_call hX _ (t_X10_shape (xs (i + 1)) MM p2 e2) mX10_shape lL_122 (by decide) (by decide) oM0 rfl rfl rfl rfl ⟨Nat.le_of_ble_eq_true rfl, Nat.le_of_ble_eq_true rfl⟩ rfl (Nat.le_of_ble_eq_true rfl) dL_law_969 (fun r2 MM1 q2 => ?_)
  rw [← q2.1] at h2
  have hM1 : InvM MM1 := by rw [q2.2]; exact hM
  exact u_icmp_eq (tgt := 1128) hX dL_law_972 (by decide) (fun _ => hk MC1 MM1 hC1 hM1 ⟨((congrFun (congrFun q1.2 19) 1).trans (hR.1.trans (congrFun (congrFun q2.2 0) 6).symm)), (pp_fr hR.2.1 (congrFun (congrFun q2.2 0) 4) (fun p => congrFun (congrFun q1.2 43) p)), (tt_fr hR.2.2.1 (Int.le_of_eq (congrArg Int32.toInt (congrFun (congrFun q2.2 0) 6))) (fun p => congrFun (congrFun q1.2 20) p) (fun p => congrFun (congrFun q2.2 5) p)), (ff_fr hFF hC.1 (fdc_fr (fun a i z1 z2 => congrFun (congrFun q1.2 a) i)) (fdr_same (fun j hj => congrFun (congrFun q2.2 1) j)) (fdc_fr (fun a i z1 z2 => congrFun (congrFun q1.2 a) i)) (fdr_cp (fun j hj => congrFun (congrFun q2.2 3) j)) (congrFun (congrFun q1.2 0) 12) (congrFun (congrFun q2.2 0) 54) (congrFun (congrFun q1.2 0) 10) (congrFun (congrFun q1.2 0) 11) (fun c a i hc hq => congrFun (congrFun q1.2 a) i) (fun a i hq => congrFun (congrFun q2.2 a) i))⟩) (fun c => absurd (ff_sh hFF (h1) (h2)) c)
set_option maxHeartbeats 4000000 in
theorem law_c25 {X : CU} {cI cZ cB : ClassId} {aC aM : Nat → Nat} {b L : Nat} {xs : Nat → Int32} (hX : OkU X code RL 4 cI cZ cB 300 600000 7302250) (hSc : ScU X b L xs) (hL : L ≤ 3072) {i : Nat} (hi : i + 6 ≤ L) {MC MM : Mem} (hC : InvC MC) (hM : InvM MM) (hR : Rel MC MM) (hk : ∀ MC' MM' : Mem, InvC MC' → InvM MM' → Rel MC' MM' → VU X (wl 60 aC (glC aC cI cZ cB) MC' ++ (wl 39 aM (glM aM cI cZ cB) MM' ++ [])) [(0, .ref b), (1, .ref (aC 0)), (2, .ref (aM 0)), (3, .int (nI i))] [] 1128 99 12419) : VU X (wl 60 aC (glC aC cI cZ cB) MC ++ (wl 39 aM (glM aM cI cZ cB) MM ++ [])) [(0, .ref b), (1, .ref (aC 0)), (2, .ref (aM 0)), (3, .int (nI i))] [] 977 99 12419 := by
  have hFF : FF MC MM := hR.2.2.2
  obtain ⟨FR, FF0, Ftb, hLc, hLr, hLq⟩ := hFF.2.2.2
  refine u_aload (kk := 1) hX dL_law_977 rfl rfl ?_
  refine u_aload (kk := 0) hX dL_law_978 rfl rfl ?_
  refine u_iload (kk := 3) hX dL_law_979 rfl rfl ?_
  refine u_iconst (v := nI 1) hX dL_law_980 (by decide) ?_
  refine u_iadd hX dL_law_981 ?_
  refine u_top (y := nI (i + 1)) (nI_add _ _) ?_
  refine u_sld hX hSc (by omega) (by omega) dL_law_982 ?_
  refine u_aload (kk := 0) hX dL_law_983 rfl rfl ?_
  refine u_iload (kk := 3) hX dL_law_984 rfl rfl ?_
  refine u_iconst (v := nI 2) hX dL_law_985 (by decide) ?_
  refine u_iadd hX dL_law_986 ?_
  refine u_top (y := nI (i + 2)) (nI_add _ _) ?_
  refine u_sld hX hSc (by omega) (by omega) dL_law_987 ?_
  obtain ⟨p1, e1, h1⟩ := o4_X9_letters MC (xs (i + 1)) (xs (i + 2)) (tt_b hR.2.2.1 hR.1)
  refine u_wd (List.nil_append _).symm ?_
  refine u_call hX [] (t_X9_letters (xs (i + 1)) (xs (i + 2)) MC p1 e1) mX9_letters lL_123 (by decide) (by decide) oC0 rfl rfl rfl rfl ⟨Nat.le_of_ble_eq_true rfl, Nat.le_of_ble_eq_true rfl⟩ rfl (Nat.le_of_ble_eq_true rfl) dL_law_988 (fun r1 MC1 q1 => ?_)
  refine u_wd (List.nil_append _) ?_
  rw [← q1] at h1
  have hC1 : InvC MC1 := invC_fr hC (h1.1 0 10 (by omega)) (h1.1 0 11 (by omega)) (h1.1 0 12 (by omega))
  refine u_pop hX dL_law_991 rfl ?_
  refine u_aload (kk := 2) hX dL_law_992 rfl rfl ?_
  refine u_aload (kk := 0) hX dL_law_993 rfl rfl ?_
  refine u_iload (kk := 3) hX dL_law_994 rfl rfl ?_
  refine u_iconst (v := nI 1) hX dL_law_995 (by decide) ?_
  refine u_iadd hX dL_law_996 ?_
  refine u_top (y := nI (i + 1)) (nI_add _ _) ?_
  refine u_sld hX hSc (by omega) (by omega) dL_law_997 ?_
  refine u_aload (kk := 0) hX dL_law_998 rfl rfl ?_
  refine u_iload (kk := 3) hX dL_law_999 rfl rfl ?_
  refine u_iconst (v := nI 2) hX dL_law_1000 (by decide) ?_
  refine u_iadd hX dL_law_1001 ?_
  refine u_top (y := nI (i + 2)) (nI_add _ _) ?_
  refine u_sld hX hSc (by omega) (by omega) dL_law_1002 ?_
  obtain ⟨p2, e2, h2⟩ := o4_X10_letters MM (xs (i + 1)) (xs (i + 2)) hM.2.2.1
  refine u_call hX _ (t_X10_letters (xs (i + 1)) (xs (i + 2)) MM p2 e2) mX10_letters lL_126 (by decide) (by decide) oM0 rfl rfl rfl rfl ⟨Nat.le_of_ble_eq_true rfl, Nat.le_of_ble_eq_true rfl⟩ rfl (Nat.le_of_ble_eq_true rfl) dL_law_1003 (fun r2 MM1 q2 => ?_)
  rw [← q2] at h2
  have hM1 : InvM MM1 := ⟨(st_copy hM.1 (fun j _ => h2.1 1 j (by omega))), (st_copy hM.2.1 (fun j _ => h2.1 3 j (by omega))), h2.2.1, (gl_ext hM.2.2.2 (h2.1 0 15 (by omega)) (fun i => h2.1 12 i (by omega)) (fun i => h2.1 14 i (by omega)) (fun i => h2.1 15 i (by omega)) (fun i => h2.1 16 i (by omega)))⟩
  refine u_pop hX dL_law_1006 rfl ?_
  refine u_goto (tgt := 1128) hX dL_law_1007 (by decide) ?_
  exact hk MC1 MM1 hC1 hM1 ⟨(sz_iff hR.1 (by rw [hR.1]) (h1.2.1) (h2.2.2.1)), (pp_fr hR.2.1 (h2.1 0 4 (by omega)) (fun p => h1.1 43 p (by omega))), (tt_fr hR.2.2.1 (sz_le hM.2.2.1.1 (h2.2.2.1)) (fun p => h1.1 20 p (by omega)) (fun p => h2.1 5 p (by omega))), (ff_fr hFF hC.1 (fdc_fr (fun a i z1 z2 => h1.1 a i (by omega))) (fdr_same (fun j hj => h2.1 1 j (by omega))) (fdc_fr (fun a i z1 z2 => h1.1 a i (by omega))) (fdr_cp (fun j hj => h2.1 3 j (by omega))) (h1.1 0 12 (by omega)) (h2.1 0 54 (by omega)) (h1.1 0 10 (by omega)) (h1.1 0 11 (by omega)) (fun c a i hc hq => h1.1 a i (by omega)) (fun a i hq => h2.1 a i (by omega)))⟩
set_option maxHeartbeats 4000000 in
theorem law_c26 {X : CU} {cI cZ cB : ClassId} {aC aM : Nat → Nat} {b L : Nat} {xs : Nat → Int32} (hX : OkU X code RL 4 cI cZ cB 300 600000 7302250) (hSc : ScU X b L xs) (hL : L ≤ 3072) {i : Nat} (hi : i + 6 ≤ L) {MC MM : Mem} (hC : InvC MC) (hM : InvM MM) (hR : Rel MC MM) (hk : ∀ MC' MM' : Mem, InvC MC' → InvM MM' → Rel MC' MM' → VU X (wl 60 aC (glC aC cI cZ cB) MC' ++ (wl 39 aM (glM aM cI cZ cB) MM' ++ [])) [(0, .ref b), (1, .ref (aC 0)), (2, .ref (aM 0)), (3, .int (nI i))] [] 1128 99 12419) : VU X (wl 60 aC (glC aC cI cZ cB) MC ++ (wl 39 aM (glM aM cI cZ cB) MM ++ [])) [(0, .ref b), (1, .ref (aC 0)), (2, .ref (aM 0)), (3, .int (nI i))] [] 1010 99 12419 := by
  have hFF : FF MC MM := hR.2.2.2
  obtain ⟨FR, FF0, Ftb, hLc, hLr, hLq⟩ := hFF.2.2.2
  refine u_aload (kk := 1) hX dL_law_1010 rfl rfl ?_
  refine u_aload (kk := 0) hX dL_law_1011 rfl rfl ?_
  refine u_iload (kk := 3) hX dL_law_1012 rfl rfl ?_
  refine u_iconst (v := nI 1) hX dL_law_1013 (by decide) ?_
  refine u_iadd hX dL_law_1014 ?_
  refine u_top (y := nI (i + 1)) (nI_add _ _) ?_
  refine u_sld hX hSc (by omega) (by omega) dL_law_1015 ?_
  obtain ⟨p1, e1, h1⟩ := o_X9_thrown MC (xs (i + 1))
  refine u_wd (List.nil_append _).symm ?_
  refine u_call hX [] (t_X9_thrown (xs (i + 1)) MC p1 e1) mX9_thrown lL_127 (by decide) (by decide) oC0 rfl rfl rfl rfl ⟨Nat.le_of_ble_eq_true rfl, Nat.le_of_ble_eq_true rfl⟩ rfl (Nat.le_of_ble_eq_true rfl) dL_law_1016 (fun r1 MC1 q1 => ?_)
  refine u_wd (List.nil_append _) ?_
  clear h1
  have hC1 : InvC MC1 := by rw [q1.2]; exact hC
  refine u_pop hX dL_law_1019 rfl ?_
  refine u_aload (kk := 2) hX dL_law_1020 rfl rfl ?_
  refine u_aload (kk := 0) hX dL_law_1021 rfl rfl ?_
  refine u_iload (kk := 3) hX dL_law_1022 rfl rfl ?_
  refine u_iconst (v := nI 1) hX dL_law_1023 (by decide) ?_
  refine u_iadd hX dL_law_1024 ?_
  refine u_top (y := nI (i + 1)) (nI_add _ _) ?_
  refine u_sld hX hSc (by omega) (by omega) dL_law_1025 ?_
  obtain ⟨p2, e2, h2⟩ := o_X10_thrown MM (xs (i + 1))
  refine u_call hX _ (t_X10_thrown (xs (i + 1)) MM p2 e2) mX10_thrown lL_130 (by decide) (by decide) oM0 rfl rfl rfl rfl ⟨Nat.le_of_ble_eq_true rfl, Nat.le_of_ble_eq_true rfl⟩ rfl (Nat.le_of_ble_eq_true rfl) dL_law_1026 (fun r2 MM1 q2 => ?_)
  rw [← q2] at h2
  have hM1 : InvM MM1 := ⟨(st_copy hM.1 (fun j _ => h2 1 j (by omega))), (st_copy hM.2.1 (fun j _ => h2 3 j (by omega))), (tp_fr hM.2.2.1 (h2 0 6 (by omega))), (gl_ext hM.2.2.2 (h2 0 15 (by omega)) (fun i => h2 12 i (by omega)) (fun i => h2 14 i (by omega)) (fun i => h2 15 i (by omega)) (fun i => h2 16 i (by omega)))⟩
  refine u_pop hX dL_law_1029 rfl ?_
  refine u_goto (tgt := 1128) hX dL_law_1030 (by decide) ?_
  exact hk MC1 MM1 hC1 hM1 ⟨((congrFun (congrFun q1.2 19) 1).trans (hR.1.trans (h2 0 6 (by omega)).symm)), (pp_fr hR.2.1 (h2 0 4 (by omega)) (fun p => congrFun (congrFun q1.2 43) p)), (tt_fr hR.2.2.1 (Int.le_of_eq (congrArg Int32.toInt (h2 0 6 (by omega)))) (fun p => congrFun (congrFun q1.2 20) p) (fun p => h2 5 p (by omega))), (ff_fr hFF hC.1 (fdc_fr (fun a i z1 z2 => congrFun (congrFun q1.2 a) i)) (fdr_same (fun j hj => h2 1 j (by omega))) (fdc_fr (fun a i z1 z2 => congrFun (congrFun q1.2 a) i)) (fdr_cp (fun j hj => h2 3 j (by omega))) (congrFun (congrFun q1.2 0) 12) (h2 0 54 (by omega)) (congrFun (congrFun q1.2 0) 10) (congrFun (congrFun q1.2 0) 11) (fun c a i hc hq => congrFun (congrFun q1.2 a) i) (fun a i hq => h2 a i (by omega)))⟩
set_option maxHeartbeats 4000000 in
theorem law_c27 {X : CU} {cI cZ cB : ClassId} {aC aM : Nat → Nat} {b L : Nat} {xs : Nat → Int32} (hX : OkU X code RL 4 cI cZ cB 300 600000 7302250) (hSc : ScU X b L xs) (hL : L ≤ 3072) {i : Nat} (hi : i + 6 ≤ L) {MC MM : Mem} (hC : InvC MC) (hM : InvM MM) (hR : Rel MC MM) (hk : ∀ MC' MM' : Mem, InvC MC' → InvM MM' → Rel MC' MM' → VU X (wl 60 aC (glC aC cI cZ cB) MC' ++ (wl 39 aM (glM aM cI cZ cB) MM' ++ [])) [(0, .ref b), (1, .ref (aC 0)), (2, .ref (aM 0)), (3, .int (nI i))] [] 1128 99 12419) : VU X (wl 60 aC (glC aC cI cZ cB) MC ++ (wl 39 aM (glM aM cI cZ cB) MM ++ [])) [(0, .ref b), (1, .ref (aC 0)), (2, .ref (aM 0)), (3, .int (nI i))] [] 1033 99 12419 := by
  have hFF : FF MC MM := hR.2.2.2
  obtain ⟨FR, FF0, Ftb, hLc, hLr, hLq⟩ := hFF.2.2.2
  refine u_aload (kk := 1) hX dL_law_1033 rfl rfl ?_
  refine u_aload (kk := 0) hX dL_law_1034 rfl rfl ?_
  refine u_iload (kk := 3) hX dL_law_1035 rfl rfl ?_
  refine u_iconst (v := nI 1) hX dL_law_1036 (by decide) ?_
  refine u_iadd hX dL_law_1037 ?_
  refine u_top (y := nI (i + 1)) (nI_add _ _) ?_
  refine u_sld hX hSc (by omega) (by omega) dL_law_1038 ?_
  obtain ⟨p1, e1, h1⟩ := o9_X9_seed MC (xs (i + 1))
  refine u_wd (List.nil_append _).symm ?_
  refine u_call hX [] (t_X9_seed (xs (i + 1)) MC p1 e1) mX9_seed lL_131 (by decide) (by decide) oC0 rfl rfl rfl rfl ⟨Nat.le_of_ble_eq_true rfl, Nat.le_of_ble_eq_true rfl⟩ rfl (Nat.le_of_ble_eq_true rfl) dL_law_1039 (fun r1 MC1 q1 => ?_)
  refine u_wd (List.nil_append _) ?_
  rw [← q1] at h1
  have hC1 : InvC MC1 := invC_fr hC (h1.2.1 0 10 (by omega)) (h1.2.1 0 11 (by omega)) (h1.2.1 0 12 (by omega))
  refine u_pop hX dL_law_1042 rfl ?_
  refine u_aload (kk := 2) hX dL_law_1043 rfl rfl ?_
  refine u_aload (kk := 0) hX dL_law_1044 rfl rfl ?_
  refine u_iload (kk := 3) hX dL_law_1045 rfl rfl ?_
  refine u_iconst (v := nI 1) hX dL_law_1046 (by decide) ?_
  refine u_iadd hX dL_law_1047 ?_
  refine u_top (y := nI (i + 1)) (nI_add _ _) ?_
  refine u_sld hX hSc (by omega) (by omega) dL_law_1048 ?_
  obtain ⟨p2, e2, h2⟩ := o9_X10_seed MM (xs (i + 1)) hFF.1.2
  refine u_call hX _ (t_X10_seed (xs (i + 1)) MM p2 e2) mX10_seed lL_134 (by decide) (by decide) oM0 rfl rfl rfl rfl ⟨Nat.le_of_ble_eq_true rfl, Nat.le_of_ble_eq_true rfl⟩ rfl (Nat.le_of_ble_eq_true rfl) dL_law_1049 (fun r2 MM1 q2 => ?_)
  rw [← q2] at h2
  have hM1 : InvM MM1 := ⟨h2.2.2.1, (st_copy hM.2.1 (fun j _ => h2.2.1 3 j (by omega))), (tp_fr hM.2.2.1 (h2.2.1 0 6 (by omega))), (gl_ext hM.2.2.2 (h2.2.1 0 15 (by omega)) (fun i => h2.2.1 12 i (by omega)) (fun i => h2.2.1 14 i (by omega)) (fun i => h2.2.1 15 i (by omega)) (fun i => h2.2.1 16 i (by omega)))⟩
  refine u_pop hX dL_law_1052 rfl ?_
  refine u_goto (tgt := 1128) hX dL_law_1053 (by decide) ?_
  exact hk MC1 MM1 hC1 hM1 ⟨((h1.2.1 19 1 (by omega)).trans (hR.1.trans (h2.2.1 0 6 (by omega)).symm)), (pp_fr hR.2.1 (h2.2.1 0 4 (by omega)) (fun p => h1.2.1 43 p (by omega))), (tt_fr hR.2.2.1 (Int.le_of_eq (congrArg Int32.toInt (h2.2.1 0 6 (by omega)))) (fun p => h1.2.1 20 p (by omega)) (fun p => h2.2.1 5 p (by omega))), (ff_mk hFF hC.1 (ff_sd hFF (h1.2.2) (h2.2.2.2)).1 (fdc_fr (fun a i z1 z2 => h1.2.1 a i (by omega))) (fdr_cp (fun j hj => h2.2.1 3 j (by omega))) (h1.2.1 0 12 (by omega)) (h2.2.1 0 54 (by omega)) (h1.2.1 0 10 (by omega)) (h1.2.1 0 11 (by omega)) (fun c a i hc hq => h1.2.1 a i (by omega)) (fun a i hq => h2.2.1 a i (by omega)))⟩
set_option maxHeartbeats 4000000 in
theorem law_c28 {X : CU} {cI cZ cB : ClassId} {aC aM : Nat → Nat} {b L : Nat} {xs : Nat → Int32} (hX : OkU X code RL 4 cI cZ cB 300 600000 7302250) (hSc : ScU X b L xs) (hL : L ≤ 3072) {i : Nat} (hi : i + 6 ≤ L) {MC MM : Mem} (hC : InvC MC) (hM : InvM MM) (hR : Rel MC MM) (hk : ∀ MC' MM' : Mem, InvC MC' → InvM MM' → Rel MC' MM' → VU X (wl 60 aC (glC aC cI cZ cB) MC' ++ (wl 39 aM (glM aM cI cZ cB) MM' ++ [])) [(0, .ref b), (1, .ref (aC 0)), (2, .ref (aM 0)), (3, .int (nI i))] [] 1128 99 12419) : VU X (wl 60 aC (glC aC cI cZ cB) MC ++ (wl 39 aM (glM aM cI cZ cB) MM ++ [])) [(0, .ref b), (1, .ref (aC 0)), (2, .ref (aM 0)), (3, .int (nI i))] [] 1056 99 12419 := by
  have hFF : FF MC MM := hR.2.2.2
  obtain ⟨FR, FF0, Ftb, hLc, hLr, hLq⟩ := hFF.2.2.2
  refine u_aload (kk := 1) hX dL_law_1056 rfl rfl ?_
  obtain ⟨p1, e1, h1⟩ := o9_X9_keep MC (by rw [hFF.1.1]; exact hFF.1.2)
  refine u_wd (List.nil_append _).symm ?_
  refine u_call hX [] (t_X9_keep MC p1 e1) mX9_keep lL_135 (by decide) (by decide) oC0 rfl rfl rfl rfl ⟨Nat.le_of_ble_eq_true rfl, Nat.le_of_ble_eq_true rfl⟩ rfl (Nat.le_of_ble_eq_true rfl) dL_law_1057 (fun r1 MC1 q1 => ?_)
  refine u_wd (List.nil_append _) ?_
  rw [← q1] at h1
  have hC1 : InvC MC1 := ⟨by rw [show MC1 0 10 = MC 0 10 from h1.1 0 10 (by omega)]; exact hC.1, by rw [show MC1 0 11 = MC 0 11 from h1.1 0 11 (by omega)]; exact hC.2.1, Or.inr h1.2.1⟩
  refine u_pop hX dL_law_1060 rfl ?_
  refine u_aload (kk := 2) hX dL_law_1061 rfl rfl ?_
  obtain ⟨p2, e2, h2⟩ := o9_X10_keep MM hM.1
  refine u_call hX _ (t_X10_keep MM p2 e2) mX10_keep lL_138 (by decide) (by decide) oM0 rfl rfl rfl rfl ⟨Nat.le_of_ble_eq_true rfl, Nat.le_of_ble_eq_true rfl⟩ rfl (Nat.le_of_ble_eq_true rfl) dL_law_1062 (fun r2 MM1 q2 => ?_)
  rw [← q2] at h2
  have hM1 : InvM MM1 := ⟨(st_copy hM.1 (fun j _ => h2.1 1 j (by omega))), h2.2.2.1, (tp_fr hM.2.2.1 (h2.1 0 6 (by omega))), (gl_ext hM.2.2.2 (h2.1 0 15 (by omega)) (fun i => h2.1 12 i (by omega)) (fun i => h2.1 14 i (by omega)) (fun i => h2.1 15 i (by omega)) (fun i => h2.1 16 i (by omega)))⟩
  refine u_pop hX dL_law_1065 rfl ?_
  refine u_goto (tgt := 1128) hX dL_law_1066 (by decide) ?_
  exact hk MC1 MM1 hC1 hM1 ⟨((h1.1 19 1 (by omega)).trans (hR.1.trans (h2.1 0 6 (by omega)).symm)), (pp_fr hR.2.1 (h2.1 0 4 (by omega)) (fun p => h1.1 43 p (by omega))), (tt_fr hR.2.2.1 (Int.le_of_eq (congrArg Int32.toInt (h2.1 0 6 (by omega)))) (fun p => h1.1 20 p (by omega)) (fun p => h2.1 5 p (by omega))), (ff_keep hFF hC.1 (h1.2.2) (h2.2.2.2.2) (h1.2.1) (h2.2.2.2.1) (h1.1 0 10 (by omega)) (h1.1 0 11 (by omega)) (fun c a i hc hq => h1.1 a i (by omega)) (fun a i hq => h2.1 a i (by omega)))⟩
set_option maxHeartbeats 4000000 in
theorem law_c29 {X : CU} {cI cZ cB : ClassId} {aC aM : Nat → Nat} {b L : Nat} {xs : Nat → Int32} (hX : OkU X code RL 4 cI cZ cB 300 600000 7302250) (hSc : ScU X b L xs) (hL : L ≤ 3072) {i : Nat} (hi : i + 6 ≤ L) {MC MM : Mem} (hC : InvC MC) (hM : InvM MM) (hR : Rel MC MM) (hk : ∀ MC' MM' : Mem, InvC MC' → InvM MM' → Rel MC' MM' → VU X (wl 60 aC (glC aC cI cZ cB) MC' ++ (wl 39 aM (glM aM cI cZ cB) MM' ++ [])) [(0, .ref b), (1, .ref (aC 0)), (2, .ref (aM 0)), (3, .int (nI i))] [] 1128 99 12419) : VU X (wl 60 aC (glC aC cI cZ cB) MC ++ (wl 39 aM (glM aM cI cZ cB) MM ++ [])) [(0, .ref b), (1, .ref (aC 0)), (2, .ref (aM 0)), (3, .int (nI i))] [] 1069 99 12419 := by
  have hFF : FF MC MM := hR.2.2.2
  obtain ⟨FR, FF0, Ftb, hLc, hLr, hLq⟩ := hFF.2.2.2
  refine u_aload (kk := 1) hX dL_law_1069 rfl rfl ?_
  obtain ⟨p1, e1, h1⟩ := o9_X9_undo MC hC.2.2 (fun z => by have y := hFF.2.1.2 z; rw [y.1]; exact y.2)
  refine u_wd (List.nil_append _).symm ?_
  refine u_call hX [] (t_X9_undo MC p1 e1) mX9_undo lL_139 (by decide) (by decide) oC0 rfl rfl rfl rfl ⟨Nat.le_of_ble_eq_true rfl, Nat.le_of_ble_eq_true rfl⟩ rfl (Nat.le_of_ble_eq_true rfl) dL_law_1070 (fun r1 MC1 q1 => ?_)
  refine u_wd (List.nil_append _) ?_
  rw [← q1] at h1
  have hC1 : InvC MC1 := invC_fr hC (h1.2.1 0 10 (by omega)) (h1.2.1 0 11 (by omega)) (h1.2.1 0 12 (by omega))
  refine u_pop hX dL_law_1073 rfl ?_
  refine u_aload (kk := 2) hX dL_law_1074 rfl rfl ?_
  obtain ⟨p2, e2, h2⟩ := o9_X10_undo MM hM.1 hM.2.1
  refine u_call hX _ (t_X10_undo MM p2 e2) mX10_undo lL_143 (by decide) (by decide) oM0 rfl rfl rfl rfl ⟨Nat.le_of_ble_eq_true rfl, Nat.le_of_ble_eq_true rfl⟩ rfl (Nat.le_of_ble_eq_true rfl) dL_law_1075 (fun r2 MM1 q2 => ?_)
  rw [← q2] at h2
  have hM1 : InvM MM1 := ⟨h2.2.2.1, (st_copy hM.2.1 (fun j _ => h2.2.1 3 j (by omega))), (tp_fr hM.2.2.1 (h2.2.1 0 6 (by omega))), (gl_ext hM.2.2.2 (h2.2.1 0 15 (by omega)) (fun i => h2.2.1 12 i (by omega)) (fun i => h2.2.1 14 i (by omega)) (fun i => h2.2.1 15 i (by omega)) (fun i => h2.2.1 16 i (by omega)))⟩
  refine u_pop hX dL_law_1078 rfl ?_
  refine u_goto (tgt := 1128) hX dL_law_1079 (by decide) ?_
  exact hk MC1 MM1 hC1 hM1 ⟨((h1.2.1 19 1 (by omega)).trans (hR.1.trans (h2.2.1 0 6 (by omega)).symm)), (pp_fr hR.2.1 (h2.2.1 0 4 (by omega)) (fun p => h1.2.1 43 p (by omega))), (tt_fr hR.2.2.1 (Int.le_of_eq (congrArg Int32.toInt (h2.2.1 0 6 (by omega)))) (fun p => h1.2.1 20 p (by omega)) (fun p => h2.2.1 5 p (by omega))), (ff_mk hFF hC.1 (ff_undo hFF (h1.2.2.2) (h2.2.2.2.2)) (h1.2.2.2).1 (h2.2.2.2.2).1 (h1.2.1 0 12 (by omega)) (h2.2.1 0 54 (by omega)) (h1.2.1 0 10 (by omega)) (h1.2.1 0 11 (by omega)) (fun c a i hc hq => h1.2.1 a i (by omega)) (fun a i hq => h2.2.1 a i (by omega)))⟩
set_option maxHeartbeats 4000000 in
theorem law_c30 {X : CU} {cI cZ cB : ClassId} {aC aM : Nat → Nat} {b L : Nat} {xs : Nat → Int32} (hX : OkU X code RL 4 cI cZ cB 300 600000 7302250) (hSc : ScU X b L xs) (hL : L ≤ 3072) {i : Nat} (hi : i + 6 ≤ L) {MC MM : Mem} (hC : InvC MC) (hM : InvM MM) (hR : Rel MC MM) (hk : ∀ MC' MM' : Mem, InvC MC' → InvM MM' → Rel MC' MM' → VU X (wl 60 aC (glC aC cI cZ cB) MC' ++ (wl 39 aM (glM aM cI cZ cB) MM' ++ [])) [(0, .ref b), (1, .ref (aC 0)), (2, .ref (aM 0)), (3, .int (nI i))] [] 1128 99 12419) : VU X (wl 60 aC (glC aC cI cZ cB) MC ++ (wl 39 aM (glM aM cI cZ cB) MM ++ [])) [(0, .ref b), (1, .ref (aC 0)), (2, .ref (aM 0)), (3, .int (nI i))] [] 1082 99 12419 := by
  have hFF : FF MC MM := hR.2.2.2
  obtain ⟨FR, FF0, Ftb, hLc, hLr, hLq⟩ := hFF.2.2.2
  refine u_aload (kk := 1) hX dL_law_1082 rfl rfl ?_
  refine u_aload (kk := 0) hX dL_law_1083 rfl rfl ?_
  refine u_iload (kk := 3) hX dL_law_1084 rfl rfl ?_
  refine u_iconst (v := nI 1) hX dL_law_1085 (by decide) ?_
  refine u_iadd hX dL_law_1086 ?_
  refine u_top (y := nI (i + 1)) (nI_add _ _) ?_
  refine u_sld hX hSc (by omega) (by omega) dL_law_1087 ?_
  obtain ⟨p1, e1, h1⟩ := o3_X9_check MC (xs (i + 1))
  refine u_wd (List.nil_append _).symm ?_
  refine u_call hX [] (t_X9_check (xs (i + 1)) MC p1 e1) mX9_check lL_144 (by decide) (by decide) oC0 rfl rfl rfl rfl ⟨Nat.le_of_ble_eq_true rfl, Nat.le_of_ble_eq_true rfl⟩ rfl (Nat.le_of_ble_eq_true rfl) dL_law_1088 (fun r1 MC1 q1 => ?_)
  refine u_wd (List.nil_append _) ?_
  rw [← q1] at h1
  have hC1 : InvC MC1 := invC_fr hC (h1.1 0 10 (by omega)) (h1.1 0 11 (by omega)) (h1.1 0 12 (by omega))
  refine u_pop hX dL_law_1091 rfl ?_
  refine u_aload (kk := 2) hX dL_law_1092 rfl rfl ?_
  refine u_aload (kk := 0) hX dL_law_1093 rfl rfl ?_
  refine u_iload (kk := 3) hX dL_law_1094 rfl rfl ?_
  refine u_iconst (v := nI 1) hX dL_law_1095 (by decide) ?_
  refine u_iadd hX dL_law_1096 ?_
  refine u_top (y := nI (i + 1)) (nI_add _ _) ?_
  refine u_sld hX hSc (by omega) (by omega) dL_law_1097 ?_
  obtain ⟨p2, e2, h2⟩ := o3_X10_check MM (xs (i + 1)) hM.2.2.1
  refine u_call hX _ (t_X10_check (xs (i + 1)) MM p2 e2) mX10_check lL_147 (by decide) (by decide) oM0 rfl rfl rfl rfl ⟨Nat.le_of_ble_eq_true rfl, Nat.le_of_ble_eq_true rfl⟩ rfl (Nat.le_of_ble_eq_true rfl) dL_law_1098 (fun r2 MM1 q2 => ?_)
  rw [← q2] at h2
  have hM1 : InvM MM1 := ⟨(st_copy hM.1 (fun j _ => h2.1 1 j (by omega))), (st_copy hM.2.1 (fun j _ => h2.1 3 j (by omega))), h2.2.1, (gl_ext hM.2.2.2 (h2.1 0 15 (by omega)) (fun i => h2.1 12 i (by omega)) (fun i => h2.1 14 i (by omega)) (fun i => h2.1 15 i (by omega)) (fun i => h2.1 16 i (by omega)))⟩
  refine u_pop hX dL_law_1101 rfl ?_
  refine u_goto (tgt := 1128) hX dL_law_1102 (by decide) ?_
  exact hk MC1 MM1 hC1 hM1 ⟨(sz_iff hR.1 (by rw [hR.1]) (h1.2) (h2.2.2)), (pp_fr hR.2.1 (h2.1 0 4 (by omega)) (fun p => h1.1 43 p (by omega))), (tt_fr hR.2.2.1 (sz_le hM.2.2.1.1 (h2.2.2)) (fun p => h1.1 20 p (by omega)) (fun p => h2.1 5 p (by omega))), (ff_fr hFF hC.1 (fdc_fr (fun a i z1 z2 => h1.1 a i (by omega))) (fdr_same (fun j hj => h2.1 1 j (by omega))) (fdc_fr (fun a i z1 z2 => h1.1 a i (by omega))) (fdr_cp (fun j hj => h2.1 3 j (by omega))) (h1.1 0 12 (by omega)) (h2.1 0 54 (by omega)) (h1.1 0 10 (by omega)) (h1.1 0 11 (by omega)) (fun c a i hc hq => h1.1 a i (by omega)) (fun a i hq => h2.1 a i (by omega)))⟩
set_option maxHeartbeats 4000000 in
theorem law_c31 {X : CU} {cI cZ cB : ClassId} {aC aM : Nat → Nat} {b L : Nat} {xs : Nat → Int32} (hX : OkU X code RL 4 cI cZ cB 300 600000 7302250) (hSc : ScU X b L xs) (hL : L ≤ 3072) {i : Nat} (hi : i + 6 ≤ L) {MC MM : Mem} (hC : InvC MC) (hM : InvM MM) (hR : Rel MC MM) (hk : ∀ MC' MM' : Mem, InvC MC' → InvM MM' → Rel MC' MM' → VU X (wl 60 aC (glC aC cI cZ cB) MC' ++ (wl 39 aM (glM aM cI cZ cB) MM' ++ [])) [(0, .ref b), (1, .ref (aC 0)), (2, .ref (aM 0)), (3, .int (nI i))] [] 1128 99 12419) : VU X (wl 60 aC (glC aC cI cZ cB) MC ++ (wl 39 aM (glM aM cI cZ cB) MM ++ [])) [(0, .ref b), (1, .ref (aC 0)), (2, .ref (aM 0)), (3, .int (nI i))] [] 1105 99 12419 := by
  have hFF : FF MC MM := hR.2.2.2
  obtain ⟨FR, FF0, Ftb, hLc, hLr, hLq⟩ := hFF.2.2.2
  refine u_aload (kk := 1) hX dL_law_1105 rfl rfl ?_
  refine u_aload (kk := 0) hX dL_law_1106 rfl rfl ?_
  refine u_iload (kk := 3) hX dL_law_1107 rfl rfl ?_
  refine u_iconst (v := nI 1) hX dL_law_1108 (by decide) ?_
  refine u_iadd hX dL_law_1109 ?_
  refine u_top (y := nI (i + 1)) (nI_add _ _) ?_
  refine u_sld hX hSc (by omega) (by omega) dL_law_1110 ?_
  obtain ⟨p1, e1, h1⟩ := o_X9_count MC (xs (i + 1)) hC.1
  refine u_wd (List.nil_append _).symm ?_
  refine u_call hX [] (t_X9_count (xs (i + 1)) MC p1 e1) mX9_count lL_148 (by decide) (by decide) oC0 rfl rfl rfl rfl ⟨Nat.le_of_ble_eq_true rfl, Nat.le_of_ble_eq_true rfl⟩ rfl (Nat.le_of_ble_eq_true rfl) dL_law_1111 (fun r1 MC1 q1 => ?_)
  refine u_wd (List.nil_append _) ?_
  clear h1
  have hC1 : InvC MC1 := by rw [q1.2]; exact hC
  refine u_pop hX dL_law_1114 rfl ?_
  refine u_aload (kk := 2) hX dL_law_1115 rfl rfl ?_
  refine u_aload (kk := 0) hX dL_law_1116 rfl rfl ?_
  refine u_iload (kk := 3) hX dL_law_1117 rfl rfl ?_
  refine u_iconst (v := nI 1) hX dL_law_1118 (by decide) ?_
  refine u_iadd hX dL_law_1119 ?_
  refine u_top (y := nI (i + 1)) (nI_add _ _) ?_
  refine u_sld hX hSc (by omega) (by omega) dL_law_1120 ?_
  obtain ⟨p2, e2, h2⟩ := o_X10_count MM (xs (i + 1))
  refine u_call hX _ (t_X10_count (xs (i + 1)) MM p2 e2) mX10_count lL_151 (by decide) (by decide) oM0 rfl rfl rfl rfl ⟨Nat.le_of_ble_eq_true rfl, Nat.le_of_ble_eq_true rfl⟩ rfl (Nat.le_of_ble_eq_true rfl) dL_law_1121 (fun r2 MM1 q2 => ?_)
  clear h2
  have hM1 : InvM MM1 := by rw [q2.2]; exact hM
  refine u_pop hX dL_law_1124 rfl ?_
  refine u_goto (tgt := 1128) hX dL_law_1125 (by decide) ?_
  exact hk MC1 MM1 hC1 hM1 ⟨((congrFun (congrFun q1.2 19) 1).trans (hR.1.trans (congrFun (congrFun q2.2 0) 6).symm)), (pp_fr hR.2.1 (congrFun (congrFun q2.2 0) 4) (fun p => congrFun (congrFun q1.2 43) p)), (tt_fr hR.2.2.1 (Int.le_of_eq (congrArg Int32.toInt (congrFun (congrFun q2.2 0) 6))) (fun p => congrFun (congrFun q1.2 20) p) (fun p => congrFun (congrFun q2.2 5) p)), (ff_fr hFF hC.1 (fdc_fr (fun a i z1 z2 => congrFun (congrFun q1.2 a) i)) (fdr_same (fun j hj => congrFun (congrFun q2.2 1) j)) (fdc_fr (fun a i z1 z2 => congrFun (congrFun q1.2 a) i)) (fdr_cp (fun j hj => congrFun (congrFun q2.2 3) j)) (congrFun (congrFun q1.2 0) 12) (congrFun (congrFun q2.2 0) 54) (congrFun (congrFun q1.2 0) 10) (congrFun (congrFun q1.2 0) 11) (fun c a i hc hq => congrFun (congrFun q1.2 a) i) (fun a i hq => congrFun (congrFun q2.2 a) i))⟩
set_option maxHeartbeats 4000000 in
theorem law_sw {X : CU} {cI cZ cB : ClassId} {aC aM : Nat → Nat} {b L : Nat} {xs : Nat → Int32} (hX : OkU X code RL 4 cI cZ cB 300 600000 7302250) (hSc : ScU X b L xs) (hL : L ≤ 3072) {i : Nat} (hi : i + 6 ≤ L) {MC MM : Mem} (hC : InvC MC) (hM : InvM MM) (hR : Rel MC MM) (hk : ∀ MC' MM' : Mem, InvC MC' → InvM MM' → Rel MC' MM' → VU X (wl 60 aC (glC aC cI cZ cB) MC' ++ (wl 39 aM (glM aM cI cZ cB) MM' ++ [])) [(0, .ref b), (1, .ref (aC 0)), (2, .ref (aM 0)), (3, .int (nI i))] [] 1128 99 12419) : VU X (wl 60 aC (glC aC cI cZ cB) MC ++ (wl 39 aM (glM aM cI cZ cB) MM ++ [])) [(0, .ref b), (1, .ref (aC 0)), (2, .ref (aM 0)), (3, .int (nI i))] [] 27 99 12419 := by
  refine u_aload (kk := 0) hX dL_law_27 rfl rfl ?_
  refine u_iload (kk := 3) hX dL_law_28 rfl rfl ?_
  refine u_sld hX hSc (by omega) (by omega) dL_law_29 ?_
  refine u_bipush (v := nI 31) hX dL_law_30 (by decide) ?_
  refine u_iand hX dL_law_32 ?_
  obtain ⟨j, hj, ej⟩ := pk_andE (xs i) (m := nI 31) 5 (by decide)
  refine u_top ej ?_
  have hj2 : j = 0 ∨ j = 1 ∨ j = 2 ∨ j = 3 ∨ j = 4 ∨ j = 5 ∨ j = 6 ∨ j = 7 ∨ j = 8 ∨ j = 9 ∨ j = 10 ∨ j = 11 ∨ j = 12 ∨ j = 13 ∨ j = 14 ∨ j = 15 ∨ j = 16 ∨ j = 17 ∨ j = 18 ∨ j = 19 ∨ j = 20 ∨ j = 21 ∨ j = 22 ∨ j = 23 ∨ j = 24 ∨ j = 25 ∨ j = 26 ∨ j = 27 ∨ j = 28 ∨ j = 29 ∨ j = 30 ∨ j = 31 := by omega
  rcases hj2 with rfl | rfl | rfl | rfl | rfl | rfl | rfl | rfl | rfl | rfl | rfl | rfl | rfl | rfl | rfl | rfl | rfl | rfl | rfl | rfl | rfl | rfl | rfl | rfl | rfl | rfl | rfl | rfl | rfl | rfl | rfl | rfl
  · exact u_tab (tgt := 176) (off := 143) hX dL_law_33 (by decide) (by decide) (by decide) (by decide) (law_c0 hX hSc hL hi hC hM hR hk)
  · exact u_tab (tgt := 229) (off := 196) hX dL_law_33 (by decide) (by decide) (by decide) (by decide) (law_c1 hX hSc hL hi hC hM hR hk)
  · exact u_tab (tgt := 252) (off := 219) hX dL_law_33 (by decide) (by decide) (by decide) (by decide) (law_c2 hX hSc hL hi hC hM hR hk)
  · exact u_tab (tgt := 301) (off := 268) hX dL_law_33 (by decide) (by decide) (by decide) (by decide) (law_c3 hX hSc hL hi hC hM hR hk)
  · exact u_tab (tgt := 334) (off := 301) hX dL_law_33 (by decide) (by decide) (by decide) (by decide) (law_c4 hX hSc hL hi hC hM hR hk)
  · exact u_tab (tgt := 397) (off := 364) hX dL_law_33 (by decide) (by decide) (by decide) (by decide) (law_c5 hX hSc hL hi hC hM hR hk)
  · exact u_tab (tgt := 420) (off := 387) hX dL_law_33 (by decide) (by decide) (by decide) (by decide) (law_c6 hX hSc hL hi hC hM hR hk)
  · exact u_tab (tgt := 443) (off := 410) hX dL_law_33 (by decide) (by decide) (by decide) (by decide) (law_c7 hX hSc hL hi hC hM hR hk)
  · exact u_tab (tgt := 466) (off := 433) hX dL_law_33 (by decide) (by decide) (by decide) (by decide) (law_c8 hX hSc hL hi hC hM hR hk)
  · exact u_tab (tgt := 499) (off := 466) hX dL_law_33 (by decide) (by decide) (by decide) (by decide) (law_c9 hX hSc hL hi hC hM hR hk)
  · exact u_tab (tgt := 532) (off := 499) hX dL_law_33 (by decide) (by decide) (by decide) (by decide) (law_c10 hX hSc hL hi hC hM hR hk)
  · exact u_tab (tgt := 565) (off := 532) hX dL_law_33 (by decide) (by decide) (by decide) (by decide) (law_c11 hX hSc hL hi hC hM hR hk)
  · exact u_tab (tgt := 598) (off := 565) hX dL_law_33 (by decide) (by decide) (by decide) (by decide) (law_c12 hX hSc hL hi hC hM hR hk)
  · exact u_tab (tgt := 631) (off := 598) hX dL_law_33 (by decide) (by decide) (by decide) (by decide) (law_c13 hX hSc hL hi hC hM hR hk)
  · exact u_tab (tgt := 644) (off := 611) hX dL_law_33 (by decide) (by decide) (by decide) (by decide) (law_c14 hX hSc hL hi hC hM hR hk)
  · exact u_tab (tgt := 667) (off := 634) hX dL_law_33 (by decide) (by decide) (by decide) (by decide) (law_c15 hX hSc hL hi hC hM hR hk)
  · exact u_tab (tgt := 690) (off := 657) hX dL_law_33 (by decide) (by decide) (by decide) (by decide) (law_c16 hX hSc hL hi hC hM hR hk)
  · exact u_tab (tgt := 723) (off := 690) hX dL_law_33 (by decide) (by decide) (by decide) (by decide) (law_c17 hX hSc hL hi hC hM hR hk)
  · exact u_tab (tgt := 756) (off := 723) hX dL_law_33 (by decide) (by decide) (by decide) (by decide) (law_c18 hX hSc hL hi hC hM hR hk)
  · exact u_tab (tgt := 789) (off := 756) hX dL_law_33 (by decide) (by decide) (by decide) (by decide) (law_c19 hX hSc hL hi hC hM hR hk)
  · exact u_tab (tgt := 832) (off := 799) hX dL_law_33 (by decide) (by decide) (by decide) (by decide) (law_c20 hX hSc hL hi hC hM hR hk)
  · exact u_tab (tgt := 845) (off := 812) hX dL_law_33 (by decide) (by decide) (by decide) (by decide) (law_c21 hX hSc hL hi hC hM hR hk)
  · exact u_tab (tgt := 868) (off := 835) hX dL_law_33 (by decide) (by decide) (by decide) (by decide) (law_c22 hX hSc hL hi hC hM hR hk)
  · exact u_tab (tgt := 921) (off := 888) hX dL_law_33 (by decide) (by decide) (by decide) (by decide) (law_c23 hX hSc hL hi hC hM hR hk)
  · exact u_tab (tgt := 954) (off := 921) hX dL_law_33 (by decide) (by decide) (by decide) (by decide) (law_c24 hX hSc hL hi hC hM hR hk)
  · exact u_tab (tgt := 977) (off := 944) hX dL_law_33 (by decide) (by decide) (by decide) (by decide) (law_c25 hX hSc hL hi hC hM hR hk)
  · exact u_tab (tgt := 1010) (off := 977) hX dL_law_33 (by decide) (by decide) (by decide) (by decide) (law_c26 hX hSc hL hi hC hM hR hk)
  · exact u_tab (tgt := 1033) (off := 1000) hX dL_law_33 (by decide) (by decide) (by decide) (by decide) (law_c27 hX hSc hL hi hC hM hR hk)
  · exact u_tab (tgt := 1056) (off := 1023) hX dL_law_33 (by decide) (by decide) (by decide) (by decide) (law_c28 hX hSc hL hi hC hM hR hk)
  · exact u_tab (tgt := 1069) (off := 1036) hX dL_law_33 (by decide) (by decide) (by decide) (by decide) (law_c29 hX hSc hL hi hC hM hR hk)
  · exact u_tab (tgt := 1082) (off := 1049) hX dL_law_33 (by decide) (by decide) (by decide) (by decide) (law_c30 hX hSc hL hi hC hM hR hk)
  · exact u_tab (tgt := 1105) (off := 1072) hX dL_law_33 (by decide) (by decide) (by decide) (by decide) (law_c31 hX hSc hL hi hC hM hR hk)
