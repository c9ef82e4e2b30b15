theorem cr_lshl {y : MethodName} {cc : ByteArray} {nL : Nat} {ret : Option FieldType} {rm : Room} {K : cr_K} {nS nE : Nat} {Γ : cr_G} {pc : Nat} {ls st : List Value} {I : cr_I} {R : cr_R} {n : Nat} (h : cr_Ok y cc nL ret rm K nS nE Γ) {x0 : Int64} {y0 : Int32} (d : decode cc pc = .ok (.lshl, 1)) (k : cr_V Γ (pc + 1) ls (.long (x0 <<< (y0.toInt64 &&& 63)) :: st) I R n) : cr_V Γ pc ls (.int y0 :: .long x0 :: st) I R n := by
  obtain ⟨⟨p, l, e, Rm, s, m, args, below, meth, c⟩, Q, D, g, ad, base, n0⟩ := Γ
  obtain ⟨hx, hb, hml, hown, hts, hK, hST, hlk, hrt, hA, hs0, hQ, hrm, hnm, hn0⟩ := h
  intro H locs la hP hz hS hl
  exact lv_lshl hx hb d rfl (k H locs la hP hz hS hl)
/-! A CASE OF THE LAW FOR EACH CALL -/
theorem lc_0 {nm : String} {K : cr_K} {Γ : cr_G} (h : lw_Ok nm K Γ) {L : Nat} {xs : Nat → Int32} (hX : lw_X L xs Γ) (hL : L ≤ 3072) {i : Nat} (hi : i + 6 ≤ L) {τ : Nat → Nat} {I : cr_I} (rel : cr_Rel τ I) (next : ∀ (τ' : Nat → Nat) (I' : cr_I), cr_Rel τ' I' → cr_V Γ 1303 [.ref 1300, .ref 0, .ref 200, .int (nI i)] [] I' (cr_rf τ') 247) : cr_V Γ 188 [.ref 1300, .ref 0, .ref 200, .int (nI i)] [] I (cr_rf τ) 247 := by
  refine cr_aload_n h (j := 1) rfl rfl dL_law_188 ?_
  refine cr_aload_n h (j := 0) rfl rfl dL_law_189 ?_
  refine cr_iload_n h (j := 3) rfl rfl dL_law_190 ?_
  refine cr_iconst h (v := (1 : Int32)) (by decide) dL_law_191 ?_
  refine cr_iadd h dL_law_192 ?_
  refine lw_ld h hX hL (i + 1) (nI_add i 1) (by omega) dL_law_193 ?_
  refine cr_aload_n h (j := 0) rfl rfl dL_law_194 ?_
  refine cr_iload_n h (j := 3) rfl rfl dL_law_195 ?_
  refine cr_iconst h (v := (2 : Int32)) (by decide) dL_law_196 ?_
  refine cr_iadd h dL_law_197 ?_
  refine lw_ld h hX hL (i + 2) (nI_add i 2) (by omega) dL_law_198 ?_
  refine cr_aload_n h (j := 0) rfl rfl dL_law_199 ?_
  refine cr_iload_n h (j := 3) rfl rfl dL_law_200 ?_
  refine cr_iconst h (v := (3 : Int32)) (by decide) dL_law_201 ?_
  refine cr_iadd h dL_law_202 ?_
  refine lw_ld h hX hL (i + 3) (nI_add i 3) (by omega) dL_law_203 ?_
  refine cr_aload_n h (j := 0) rfl rfl dL_law_204 ?_
  refine cr_iload_n h (j := 3) rfl rfl dL_law_205 ?_
  refine cr_iconst h (v := (4 : Int32)) (by decide) dL_law_206 ?_
  refine cr_iadd h dL_law_207 ?_
  refine lw_ld h hX hL (i + 4) (nI_add i 4) (by omega) dL_law_208 ?_
  refine cr_aload_n h (j := 0) rfl rfl dL_law_209 ?_
  refine cr_iload_n h (j := 3) rfl rfl dL_law_210 ?_
  refine cr_iconst h (v := (5 : Int32)) (by decide) dL_law_211 ?_
  refine cr_iadd h dL_law_212 ?_
  refine lw_ld h hX hL (i + 5) (nI_add i 5) (by omega) dL_law_213 ?_
  refine cr_callV h (c0 := 8) (T0 := TX8) (b := 0) C_yX8_make cZ_yX8_make wm_L_13 wv_yX8_make we_yX8_make (by decide) rfl rfl (lw_rmS (by decide) (by decide)) (As := [.int (xs (i + 1)), .int (xs (i + 2)), .int (xs (i + 3)), .int (xs (i + 4)), .int (xs (i + 5))]) rfl (Nat.le_of_ble_eq_true rfl) dL_law_214 (S_make τ I _ rel fun r I1 τ1 h9 => ?_)
  show cr_V Γ 217 [.ref 1300, .ref 0, .ref 200, .int (nI i)] [.int r] I1 (cr_rf τ1) 247
  refine cr_aload_n h (j := 2) rfl rfl dL_law_217 ?_
  refine cr_aload_n h (j := 0) rfl rfl dL_law_218 ?_
  refine cr_iload_n h (j := 3) rfl rfl dL_law_219 ?_
  refine cr_iconst h (v := (1 : Int32)) (by decide) dL_law_220 ?_
  refine cr_iadd h dL_law_221 ?_
  refine lw_ld h hX hL (i + 1) (nI_add i 1) (by omega) dL_law_222 ?_
  refine cr_aload_n h (j := 0) rfl rfl dL_law_223 ?_
  refine cr_iload_n h (j := 3) rfl rfl dL_law_224 ?_
  refine cr_iconst h (v := (2 : Int32)) (by decide) dL_law_225 ?_
  refine cr_iadd h dL_law_226 ?_
  refine lw_ld h hX hL (i + 2) (nI_add i 2) (by omega) dL_law_227 ?_
  refine cr_aload_n h (j := 0) rfl rfl dL_law_228 ?_
  refine cr_iload_n h (j := 3) rfl rfl dL_law_229 ?_
  refine cr_iconst h (v := (3 : Int32)) (by decide) dL_law_230 ?_
  refine cr_iadd h dL_law_231 ?_
  refine lw_ld h hX hL (i + 3) (nI_add i 3) (by omega) dL_law_232 ?_
  refine cr_aload_n h (j := 0) rfl rfl dL_law_233 ?_
  refine cr_iload_n h (j := 3) rfl rfl dL_law_234 ?_
  refine cr_iconst h (v := (4 : Int32)) (by decide) dL_law_235 ?_
  refine cr_iadd h dL_law_236 ?_
  refine lw_ld h hX hL (i + 4) (nI_add i 4) (by omega) dL_law_237 ?_
  refine cr_aload_n h (j := 0) rfl rfl dL_law_238 ?_
  refine cr_iload_n h (j := 3) rfl rfl dL_law_239 ?_
  refine cr_iconst h (v := (5 : Int32)) (by decide) dL_law_240 ?_
  refine cr_iadd h dL_law_241 ?_
  refine lw_ld h hX hL (i + 5) (nI_add i 5) (by omega) dL_law_242 ?_
  refine cr_callV h (c0 := 9) (T0 := TX9) (b := 200) C_yX9_make cZ_yX9_make wm_L_17 wv_yX9_make we_yX9_make (by decide) rfl rfl (lw_rmS (by decide) (by decide)) (As := [.int (xs (i + 1)), .int (xs (i + 2)), .int (xs (i + 3)), .int (xs (i + 4)), .int (xs (i + 5))]) rfl (Nat.le_of_ble_eq_true rfl) dL_law_243 (h9 _ fun I2 rel2 => ?_)
  show cr_V Γ 246 [.ref 1300, .ref 0, .ref 200, .int (nI i)] [.int r, .int r] I2 (cr_rf τ1) 247
  exact cr_icmp_eq h (tgt := 1303) (by decide) dL_law_246 (fun _ => next _ _ rel2) (fun c => absurd rfl c)
theorem lc_1 {nm : String} {K : cr_K} {Γ : cr_G} (h : lw_Ok nm K Γ) {L : Nat} {xs : Nat → Int32} (hX : lw_X L xs Γ) (hL : L ≤ 3072) {i : Nat} (hi : i + 6 ≤ L) {τ : Nat → Nat} {I : cr_I} (rel : cr_Rel τ I) (next : ∀ (τ' : Nat → Nat) (I' : cr_I), cr_Rel τ' I' → cr_V Γ 1303 [.ref 1300, .ref 0, .ref 200, .int (nI i)] [] I' (cr_rf τ') 247) : cr_V Γ 251 [.ref 1300, .ref 0, .ref 200, .int (nI i)] [] I (cr_rf τ) 247 := by
  refine cr_aload_n h (j := 1) rfl rfl dL_law_251 ?_
  refine cr_aload_n h (j := 0) rfl rfl dL_law_252 ?_
  refine cr_iload_n h (j := 3) rfl rfl dL_law_253 ?_
  refine cr_iconst h (v := (1 : Int32)) (by decide) dL_law_254 ?_
  refine cr_iadd h dL_law_255 ?_
  refine lw_ld h hX hL (i + 1) (nI_add i 1) (by omega) dL_law_256 ?_
  refine cr_i2l h dL_law_257 ?_
  refine cr_bipush h (v := (32 : Int32)) (by decide) dL_law_258 ?_
  refine cr_lshl h dL_law_260 ?_
  refine cr_aload_n h (j := 0) rfl rfl dL_law_261 ?_
  refine cr_iload_n h (j := 3) rfl rfl dL_law_262 ?_
  refine cr_iconst h (v := (2 : Int32)) (by decide) dL_law_263 ?_
  refine cr_iadd h dL_law_264 ?_
  refine lw_ld h hX hL (i + 2) (nI_add i 2) (by omega) dL_law_265 ?_
  refine cr_i2l h dL_law_266 ?_
  refine cr_ldc2 h wc_L_18 dL_law_267 ?_
  refine cr_land h dL_law_270 ?_
  refine cr_lor h dL_law_271 ?_
  refine cr_aload_n h (j := 0) rfl rfl dL_law_272 ?_
  refine cr_iload_n h (j := 3) rfl rfl dL_law_273 ?_
  refine cr_iconst h (v := (3 : Int32)) (by decide) dL_law_274 ?_
  refine cr_iadd h dL_law_275 ?_
  refine lw_ld h hX hL (i + 3) (nI_add i 3) (by omega) dL_law_276 ?_
  refine cr_callV h (c0 := 8) (T0 := TX8) (b := 0) C_yX8_write cZ_yX8_write wm_L_20 wv_yX8_write we_yX8_write (by decide) rfl rfl (lw_rmS (by decide) (by decide)) (As := [.long (((xs (i + 1)).toInt64 <<< ((32 : Int32).toInt64 &&& 63)) ||| ((xs (i + 2)).toInt64 &&& (4294967295 : Int64))), .int (xs (i + 3))]) rfl (Nat.le_of_ble_eq_true rfl) dL_law_277 (S_write τ I _ rel fun r I1 τ1 h9 => ?_)
  show cr_V Γ 280 [.ref 1300, .ref 0, .ref 200, .int (nI i)] [.int r] I1 (cr_rf τ1) 247
  refine cr_aload_n h (j := 2) rfl rfl dL_law_280 ?_
  refine cr_aload_n h (j := 0) rfl rfl dL_law_281 ?_
  refine cr_iload_n h (j := 3) rfl rfl dL_law_282 ?_
  refine cr_iconst h (v := (1 : Int32)) (by decide) dL_law_283 ?_
  refine cr_iadd h dL_law_284 ?_
  refine lw_ld h hX hL (i + 1) (nI_add i 1) (by omega) dL_law_285 ?_
  refine cr_i2l h dL_law_286 ?_
  refine cr_bipush h (v := (32 : Int32)) (by decide) dL_law_287 ?_
  refine cr_lshl h dL_law_289 ?_
  refine cr_aload_n h (j := 0) rfl rfl dL_law_290 ?_
  refine cr_iload_n h (j := 3) rfl rfl dL_law_291 ?_
  refine cr_iconst h (v := (2 : Int32)) (by decide) dL_law_292 ?_
  refine cr_iadd h dL_law_293 ?_
  refine lw_ld h hX hL (i + 2) (nI_add i 2) (by omega) dL_law_294 ?_
  refine cr_i2l h dL_law_295 ?_
  refine cr_ldc2 h wc_L_18 dL_law_296 ?_
  refine cr_land h dL_law_299 ?_
  refine cr_lor h dL_law_300 ?_
  refine cr_aload_n h (j := 0) rfl rfl dL_law_301 ?_
  refine cr_iload_n h (j := 3) rfl rfl dL_law_302 ?_
  refine cr_iconst h (v := (3 : Int32)) (by decide) dL_law_303 ?_
  refine cr_iadd h dL_law_304 ?_
  refine lw_ld h hX hL (i + 3) (nI_add i 3) (by omega) dL_law_305 ?_
  refine cr_callV h (c0 := 9) (T0 := TX9) (b := 200) C_yX9_write cZ_yX9_write wm_L_24 wv_yX9_write we_yX9_write (by decide) rfl rfl (lw_rmS (by decide) (by decide)) (As := [.long (((xs (i + 1)).toInt64 <<< ((32 : Int32).toInt64 &&& 63)) ||| ((xs (i + 2)).toInt64 &&& (4294967295 : Int64))), .int (xs (i + 3))]) rfl (Nat.le_of_ble_eq_true rfl) dL_law_306 (h9 _ fun I2 rel2 => ?_)
  show cr_V Γ 309 [.ref 1300, .ref 0, .ref 200, .int (nI i)] [.int r, .int r] I2 (cr_rf τ1) 247
  exact cr_icmp_eq h (tgt := 1303) (by decide) dL_law_309 (fun _ => next _ _ rel2) (fun c => absurd rfl c)
theorem lc_2 {nm : String} {K : cr_K} {Γ : cr_G} (h : lw_Ok nm K Γ) {L : Nat} {xs : Nat → Int32} (hX : lw_X L xs Γ) (hL : L ≤ 3072) {i : Nat} (hi : i + 6 ≤ L) {τ : Nat → Nat} {I : cr_I} (rel : cr_Rel τ I) (next : ∀ (τ' : Nat → Nat) (I' : cr_I), cr_Rel τ' I' → cr_V Γ 1303 [.ref 1300, .ref 0, .ref 200, .int (nI i)] [] I' (cr_rf τ') 247) : cr_V Γ 314 [.ref 1300, .ref 0, .ref 200, .int (nI i)] [] I (cr_rf τ) 247 := by
  refine cr_aload_n h (j := 1) rfl rfl dL_law_314 ?_
  refine cr_callV h (c0 := 8) (T0 := TX8) (b := 0) C_yX8_erase cZ_yX8_erase wm_L_25 wv_yX8_erase we_yX8_erase (by decide) rfl rfl (lw_rmS (by decide) (by decide)) (As := []) rfl (Nat.le_of_ble_eq_true rfl) dL_law_315 (S_erase τ I _ rel fun r I1 τ1 h9 => ?_)
  show cr_V Γ 318 [.ref 1300, .ref 0, .ref 200, .int (nI i)] [.int r] I1 (cr_rf τ1) 247
  refine cr_aload_n h (j := 2) rfl rfl dL_law_318 ?_
  refine cr_callV h (c0 := 9) (T0 := TX9) (b := 200) C_yX9_erase cZ_yX9_erase wm_L_29 wv_yX9_erase we_yX9_erase (by decide) rfl rfl (lw_rmS (by decide) (by decide)) (As := []) rfl (Nat.le_of_ble_eq_true rfl) dL_law_319 (h9 _ fun I2 rel2 => ?_)
  show cr_V Γ 322 [.ref 1300, .ref 0, .ref 200, .int (nI i)] [.int r, .int r] I2 (cr_rf τ1) 247
  exact cr_icmp_eq h (tgt := 1303) (by decide) dL_law_322 (fun _ => next _ _ rel2) (fun c => absurd rfl c)
theorem lc_3 {nm : String} {K : cr_K} {Γ : cr_G} (h : lw_Ok nm K Γ) {L : Nat} {xs : Nat → Int32} (hX : lw_X L xs Γ) (hL : L ≤ 3072) {i : Nat} (hi : i + 6 ≤ L) {τ : Nat → Nat} {I : cr_I} (rel : cr_Rel τ I) (next : ∀ (τ' : Nat → Nat) (I' : cr_I), cr_Rel τ' I' → cr_V Γ 1303 [.ref 1300, .ref 0, .ref 200, .int (nI i)] [] I' (cr_rf τ') 247) : cr_V Γ 327 [.ref 1300, .ref 0, .ref 200, .int (nI i)] [] I (cr_rf τ) 247 := by
  refine cr_aload_n h (j := 1) rfl rfl dL_law_327 ?_
  refine cr_callV h (c0 := 8) (T0 := TX8) (b := 0) C_yX8_fault cZ_yX8_fault wm_L_30 wv_yX8_fault we_yX8_fault (by decide) rfl rfl (lw_rmS (by decide) (by decide)) (As := []) rfl (Nat.le_of_ble_eq_true rfl) dL_law_328 (S_fault τ I _ rel fun r I1 τ1 h9 => ?_)
  show cr_V Γ 331 [.ref 1300, .ref 0, .ref 200, .int (nI i)] [.int r] I1 (cr_rf τ1) 247
  refine cr_aload_n h (j := 2) rfl rfl dL_law_331 ?_
  refine cr_callV h (c0 := 9) (T0 := TX9) (b := 200) C_yX9_fault cZ_yX9_fault wm_L_33 wv_yX9_fault we_yX9_fault (by decide) rfl rfl (lw_rmS (by decide) (by decide)) (As := []) rfl (Nat.le_of_ble_eq_true rfl) dL_law_332 (h9 _ fun I2 rel2 => ?_)
  show cr_V Γ 335 [.ref 1300, .ref 0, .ref 200, .int (nI i)] [.int r, .int r] I2 (cr_rf τ1) 247
  exact cr_icmp_eq h (tgt := 1303) (by decide) dL_law_335 (fun _ => next _ _ rel2) (fun c => absurd rfl c)
theorem lc_4 {nm : String} {K : cr_K} {Γ : cr_G} (h : lw_Ok nm K Γ) {L : Nat} {xs : Nat → Int32} (hX : lw_X L xs Γ) (hL : L ≤ 3072) {i : Nat} (hi : i + 6 ≤ L) {τ : Nat → Nat} {I : cr_I} (rel : cr_Rel τ I) (next : ∀ (τ' : Nat → Nat) (I' : cr_I), cr_Rel τ' I' → cr_V Γ 1303 [.ref 1300, .ref 0, .ref 200, .int (nI i)] [] I' (cr_rf τ') 247) : cr_V Γ 340 [.ref 1300, .ref 0, .ref 200, .int (nI i)] [] I (cr_rf τ) 247 := by
  refine cr_aload_n h (j := 1) rfl rfl dL_law_340 ?_
  refine cr_aload_n h (j := 0) rfl rfl dL_law_341 ?_
  refine cr_iload_n h (j := 3) rfl rfl dL_law_342 ?_
  refine cr_iconst h (v := (1 : Int32)) (by decide) dL_law_343 ?_
  refine cr_iadd h dL_law_344 ?_
  refine lw_ld h hX hL (i + 1) (nI_add i 1) (by omega) dL_law_345 ?_
  refine cr_callV h (c0 := 8) (T0 := TX8) (b := 0) C_yX8_table cZ_yX8_table wm_L_34 wv_yX8_table we_yX8_table (by decide) rfl rfl (lw_rmS (by decide) (by decide)) (As := [.int (xs (i + 1))]) rfl (Nat.le_of_ble_eq_true rfl) dL_law_346 (S_table τ I _ rel fun r I1 τ1 h9 => ?_)
  show cr_V Γ 349 [.ref 1300, .ref 0, .ref 200, .int (nI i)] [.int r] I1 (cr_rf τ1) 247
  refine cr_aload_n h (j := 2) rfl rfl dL_law_349 ?_
  refine cr_aload_n h (j := 0) rfl rfl dL_law_350 ?_
  refine cr_iload_n h (j := 3) rfl rfl dL_law_351 ?_
  refine cr_iconst h (v := (1 : Int32)) (by decide) dL_law_352 ?_
  refine cr_iadd h dL_law_353 ?_
  refine lw_ld h hX hL (i + 1) (nI_add i 1) (by omega) dL_law_354 ?_
  refine cr_callV h (c0 := 9) (T0 := TX9) (b := 200) C_yX9_table cZ_yX9_table wm_L_38 wv_yX9_table we_yX9_table (by decide) rfl rfl (lw_rmS (by decide) (by decide)) (As := [.int (xs (i + 1))]) rfl (Nat.le_of_ble_eq_true rfl) dL_law_355 (h9 _ fun I2 rel2 => ?_)
  show cr_V Γ 358 [.ref 1300, .ref 0, .ref 200, .int (nI i)] [.int r, .int r] I2 (cr_rf τ1) 247
  exact cr_icmp_eq h (tgt := 1303) (by decide) dL_law_358 (fun _ => next _ _ rel2) (fun c => absurd rfl c)
theorem lc_5 {nm : String} {K : cr_K} {Γ : cr_G} (h : lw_Ok nm K Γ) {L : Nat} {xs : Nat → Int32} (hX : lw_X L xs Γ) (hL : L ≤ 3072) {i : Nat} (hi : i + 6 ≤ L) {τ : Nat → Nat} {I : cr_I} (rel : cr_Rel τ I) (next : ∀ (τ' : Nat → Nat) (I' : cr_I), cr_Rel τ' I' → cr_V Γ 1303 [.ref 1300, .ref 0, .ref 200, .int (nI i)] [] I' (cr_rf τ') 247) : cr_V Γ 363 [.ref 1300, .ref 0, .ref 200, .int (nI i)] [] I (cr_rf τ) 247 := by
  refine cr_aload_n h (j := 1) rfl rfl dL_law_363 ?_
  refine cr_aload_n h (j := 0) rfl rfl dL_law_364 ?_
  refine cr_iload_n h (j := 3) rfl rfl dL_law_365 ?_
  refine cr_iconst h (v := (1 : Int32)) (by decide) dL_law_366 ?_
  refine cr_iadd h dL_law_367 ?_
  refine lw_ld h hX hL (i + 1) (nI_add i 1) (by omega) dL_law_368 ?_
  refine cr_aload_n h (j := 0) rfl rfl dL_law_369 ?_
  refine cr_iload_n h (j := 3) rfl rfl dL_law_370 ?_
  refine cr_iconst h (v := (2 : Int32)) (by decide) dL_law_371 ?_
  refine cr_iadd h dL_law_372 ?_
  refine lw_ld h hX hL (i + 2) (nI_add i 2) (by omega) dL_law_373 ?_
  refine cr_callV h (c0 := 8) (T0 := TX8) (b := 0) C_yX8_row cZ_yX8_row wm_L_39 wv_yX8_row we_yX8_row (by decide) rfl rfl (lw_rmS (by decide) (by decide)) (As := [.int (xs (i + 1)), .int (xs (i + 2))]) rfl (Nat.le_of_ble_eq_true rfl) dL_law_374 (S_row τ I _ rel fun r I1 τ1 h9 => ?_)
  show cr_V Γ 377 [.ref 1300, .ref 0, .ref 200, .int (nI i)] [.int r] I1 (cr_rf τ1) 247
  refine cr_aload_n h (j := 2) rfl rfl dL_law_377 ?_
  refine cr_aload_n h (j := 0) rfl rfl dL_law_378 ?_
  refine cr_iload_n h (j := 3) rfl rfl dL_law_379 ?_
  refine cr_iconst h (v := (1 : Int32)) (by decide) dL_law_380 ?_
  refine cr_iadd h dL_law_381 ?_
  refine lw_ld h hX hL (i + 1) (nI_add i 1) (by omega) dL_law_382 ?_
  refine cr_aload_n h (j := 0) rfl rfl dL_law_383 ?_
  refine cr_iload_n h (j := 3) rfl rfl dL_law_384 ?_
  refine cr_iconst h (v := (2 : Int32)) (by decide) dL_law_385 ?_
  refine cr_iadd h dL_law_386 ?_
  refine lw_ld h hX hL (i + 2) (nI_add i 2) (by omega) dL_law_387 ?_
  refine cr_callV h (c0 := 9) (T0 := TX9) (b := 200) C_yX9_row cZ_yX9_row wm_L_43 wv_yX9_row we_yX9_row (by decide) rfl rfl (lw_rmS (by decide) (by decide)) (As := [.int (xs (i + 1)), .int (xs (i + 2))]) rfl (Nat.le_of_ble_eq_true rfl) dL_law_388 (h9 _ fun I2 rel2 => ?_)
  show cr_V Γ 391 [.ref 1300, .ref 0, .ref 200, .int (nI i)] [.int r, .int r] I2 (cr_rf τ1) 247
  exact cr_icmp_eq h (tgt := 1303) (by decide) dL_law_391 (fun _ => next _ _ rel2) (fun c => absurd rfl c)
theorem lc_6 {nm : String} {K : cr_K} {Γ : cr_G} (h : lw_Ok nm K Γ) {L : Nat} {xs : Nat → Int32} (hX : lw_X L xs Γ) (hL : L ≤ 3072) {i : Nat} (hi : i + 6 ≤ L) {τ : Nat → Nat} {I : cr_I} (rel : cr_Rel τ I) (next : ∀ (τ' : Nat → Nat) (I' : cr_I), cr_Rel τ' I' → cr_V Γ 1303 [.ref 1300, .ref 0, .ref 200, .int (nI i)] [] I' (cr_rf τ') 247) : cr_V Γ 396 [.ref 1300, .ref 0, .ref 200, .int (nI i)] [] I (cr_rf τ) 247 := by
  refine cr_aload_n h (j := 1) rfl rfl dL_law_396 ?_
  refine cr_aload_n h (j := 0) rfl rfl dL_law_397 ?_
  refine cr_iload_n h (j := 3) rfl rfl dL_law_398 ?_
  refine cr_iconst h (v := (1 : Int32)) (by decide) dL_law_399 ?_
  refine cr_iadd h dL_law_400 ?_
  refine lw_ld h hX hL (i + 1) (nI_add i 1) (by omega) dL_law_401 ?_
  refine cr_aload_n h (j := 0) rfl rfl dL_law_402 ?_
  refine cr_iload_n h (j := 3) rfl rfl dL_law_403 ?_
  refine cr_iconst h (v := (2 : Int32)) (by decide) dL_law_404 ?_
  refine cr_iadd h dL_law_405 ?_
  refine lw_ld h hX hL (i + 2) (nI_add i 2) (by omega) dL_law_406 ?_
  refine cr_callV h (c0 := 8) (T0 := TX8) (b := 0) C_yX8_set cZ_yX8_set wm_L_44 wv_yX8_set we_yX8_set (by decide) rfl rfl (lw_rmS (by decide) (by decide)) (As := [.int (xs (i + 1)), .int (xs (i + 2))]) rfl (Nat.le_of_ble_eq_true rfl) dL_law_407 (S_set τ I _ rel fun r I1 τ1 h9 => ?_)
  show cr_V Γ 410 [.ref 1300, .ref 0, .ref 200, .int (nI i)] [.int r] I1 (cr_rf τ1) 247
  refine cr_aload_n h (j := 2) rfl rfl dL_law_410 ?_
  refine cr_aload_n h (j := 0) rfl rfl dL_law_411 ?_
  refine cr_iload_n h (j := 3) rfl rfl dL_law_412 ?_
  refine cr_iconst h (v := (1 : Int32)) (by decide) dL_law_413 ?_
  refine cr_iadd h dL_law_414 ?_
  refine lw_ld h hX hL (i + 1) (nI_add i 1) (by omega) dL_law_415 ?_
  refine cr_aload_n h (j := 0) rfl rfl dL_law_416 ?_
  refine cr_iload_n h (j := 3) rfl rfl dL_law_417 ?_
  refine cr_iconst h (v := (2 : Int32)) (by decide) dL_law_418 ?_
  refine cr_iadd h dL_law_419 ?_
  refine lw_ld h hX hL (i + 2) (nI_add i 2) (by omega) dL_law_420 ?_
  refine cr_callV h (c0 := 9) (T0 := TX9) (b := 200) C_yX9_set cZ_yX9_set wm_L_47 wv_yX9_set we_yX9_set (by decide) rfl rfl (lw_rmS (by decide) (by decide)) (As := [.int (xs (i + 1)), .int (xs (i + 2))]) rfl (Nat.le_of_ble_eq_true rfl) dL_law_421 (h9 _ fun I2 rel2 => ?_)
  show cr_V Γ 424 [.ref 1300, .ref 0, .ref 200, .int (nI i)] [.int r, .int r] I2 (cr_rf τ1) 247
  exact cr_icmp_eq h (tgt := 1303) (by decide) dL_law_424 (fun _ => next _ _ rel2) (fun c => absurd rfl c)
theorem lc_7 {nm : String} {K : cr_K} {Γ : cr_G} (h : lw_Ok nm K Γ) {L : Nat} {xs : Nat → Int32} (hX : lw_X L xs Γ) (hL : L ≤ 3072) {i : Nat} (hi : i + 6 ≤ L) {τ : Nat → Nat} {I : cr_I} (rel : cr_Rel τ I) (next : ∀ (τ' : Nat → Nat) (I' : cr_I), cr_Rel τ' I' → cr_V Γ 1303 [.ref 1300, .ref 0, .ref 200, .int (nI i)] [] I' (cr_rf τ') 247) : cr_V Γ 429 [.ref 1300, .ref 0, .ref 200, .int (nI i)] [] I (cr_rf τ) 247 := by
  refine cr_aload_n h (j := 1) rfl rfl dL_law_429 ?_
  refine cr_aload_n h (j := 0) rfl rfl dL_law_430 ?_
  refine cr_iload_n h (j := 3) rfl rfl dL_law_431 ?_
  refine cr_iconst h (v := (1 : Int32)) (by decide) dL_law_432 ?_
  refine cr_iadd h dL_law_433 ?_
  refine lw_ld h hX hL (i + 1) (nI_add i 1) (by omega) dL_law_434 ?_
  refine cr_aload_n h (j := 0) rfl rfl dL_law_435 ?_
  refine cr_iload_n h (j := 3) rfl rfl dL_law_436 ?_
  refine cr_iconst h (v := (2 : Int32)) (by decide) dL_law_437 ?_
  refine cr_iadd h dL_law_438 ?_
  refine lw_ld h hX hL (i + 2) (nI_add i 2) (by omega) dL_law_439 ?_
  refine cr_callV h (c0 := 8) (T0 := TX8) (b := 0) C_yX8_push cZ_yX8_push wm_L_48 wv_yX8_push we_yX8_push (by decide) rfl rfl (lw_rmS (by decide) (by decide)) (As := [.int (xs (i + 1)), .int (xs (i + 2))]) rfl (Nat.le_of_ble_eq_true rfl) dL_law_440 (S_push τ I _ rel fun r I1 τ1 h9 => ?_)
  show cr_V Γ 443 [.ref 1300, .ref 0, .ref 200, .int (nI i)] [.int r] I1 (cr_rf τ1) 247
  refine cr_aload_n h (j := 2) rfl rfl dL_law_443 ?_
  refine cr_aload_n h (j := 0) rfl rfl dL_law_444 ?_
  refine cr_iload_n h (j := 3) rfl rfl dL_law_445 ?_
  refine cr_iconst h (v := (1 : Int32)) (by decide) dL_law_446 ?_
  refine cr_iadd h dL_law_447 ?_
  refine lw_ld h hX hL (i + 1) (nI_add i 1) (by omega) dL_law_448 ?_
  refine cr_aload_n h (j := 0) rfl rfl dL_law_449 ?_
  refine cr_iload_n h (j := 3) rfl rfl dL_law_450 ?_
  refine cr_iconst h (v := (2 : Int32)) (by decide) dL_law_451 ?_
  refine cr_iadd h dL_law_452 ?_
  refine lw_ld h hX hL (i + 2) (nI_add i 2) (by omega) dL_law_453 ?_
  refine cr_callV h (c0 := 9) (T0 := TX9) (b := 200) C_yX9_push cZ_yX9_push wm_L_51 wv_yX9_push we_yX9_push (by decide) rfl rfl (lw_rmS (by decide) (by decide)) (As := [.int (xs (i + 1)), .int (xs (i + 2))]) rfl (Nat.le_of_ble_eq_true rfl) dL_law_454 (h9 _ fun I2 rel2 => ?_)
  show cr_V Γ 457 [.ref 1300, .ref 0, .ref 200, .int (nI i)] [.int r, .int r] I2 (cr_rf τ1) 247
  exact cr_icmp_eq h (tgt := 1303) (by decide) dL_law_457 (fun _ => next _ _ rel2) (fun c => absurd rfl c)
theorem lc_8 {nm : String} {K : cr_K} {Γ : cr_G} (h : lw_Ok nm K Γ) {L : Nat} {xs : Nat → Int32} (hX : lw_X L xs Γ) (hL : L ≤ 3072) {i : Nat} (hi : i + 6 ≤ L) {τ : Nat → Nat} {I : cr_I} (rel : cr_Rel τ I) (next : ∀ (τ' : Nat → Nat) (I' : cr_I), cr_Rel τ' I' → cr_V Γ 1303 [.ref 1300, .ref 0, .ref 200, .int (nI i)] [] I' (cr_rf τ') 247) : cr_V Γ 462 [.ref 1300, .ref 0, .ref 200, .int (nI i)] [] I (cr_rf τ) 247 := by
  refine cr_aload_n h (j := 1) rfl rfl dL_law_462 ?_
  refine cr_callV h (c0 := 8) (T0 := TX8) (b := 0) C_yX8_calm cZ_yX8_calm wm_L_52 wv_yX8_calm we_yX8_calm (by decide) rfl rfl (lw_rmS (by decide) (by decide)) (As := []) rfl (Nat.le_of_ble_eq_true rfl) dL_law_463 (S_calm τ I _ rel fun r I1 τ1 h9 => ?_)
  show cr_V Γ 466 [.ref 1300, .ref 0, .ref 200, .int (nI i)] [.int r] I1 (cr_rf τ1) 247
  refine cr_aload_n h (j := 2) rfl rfl dL_law_466 ?_
  refine cr_callV h (c0 := 9) (T0 := TX9) (b := 200) C_yX9_calm cZ_yX9_calm wm_L_55 wv_yX9_calm we_yX9_calm (by decide) rfl rfl (lw_rmS (by decide) (by decide)) (As := []) rfl (Nat.le_of_ble_eq_true rfl) dL_law_467 (h9 _ fun I2 rel2 => ?_)
  show cr_V Γ 470 [.ref 1300, .ref 0, .ref 200, .int (nI i)] [.int r, .int r] I2 (cr_rf τ1) 247
  exact cr_icmp_eq h (tgt := 1303) (by decide) dL_law_470 (fun _ => next _ _ rel2) (fun c => absurd rfl c)
theorem lc_9 {nm : String} {K : cr_K} {Γ : cr_G} (h : lw_Ok nm K Γ) {L : Nat} {xs : Nat → Int32} (hX : lw_X L xs Γ) (hL : L ≤ 3072) {i : Nat} (hi : i + 6 ≤ L) {τ : Nat → Nat} {I : cr_I} (rel : cr_Rel τ I) (next : ∀ (τ' : Nat → Nat) (I' : cr_I), cr_Rel τ' I' → cr_V Γ 1303 [.ref 1300, .ref 0, .ref 200, .int (nI i)] [] I' (cr_rf τ') 247) : cr_V Γ 475 [.ref 1300, .ref 0, .ref 200, .int (nI i)] [] I (cr_rf τ) 247 := by
  refine cr_aload_n h (j := 1) rfl rfl dL_law_475 ?_
  refine cr_aload_n h (j := 0) rfl rfl dL_law_476 ?_
  refine cr_iload_n h (j := 3) rfl rfl dL_law_477 ?_
  refine cr_iconst h (v := (1 : Int32)) (by decide) dL_law_478 ?_
  refine cr_iadd h dL_law_479 ?_
  refine lw_ld h hX hL (i + 1) (nI_add i 1) (by omega) dL_law_480 ?_
  refine cr_callV h (c0 := 8) (T0 := TX8) (b := 0) C_yX8_lose cZ_yX8_lose wm_L_56 wv_yX8_lose we_yX8_lose (by decide) rfl rfl (lw_rmS (by decide) (by decide)) (As := [.int (xs (i + 1))]) rfl (Nat.le_of_ble_eq_true rfl) dL_law_481 (S_lose τ I _ rel fun r I1 τ1 h9 => ?_)
  show cr_V Γ 484 [.ref 1300, .ref 0, .ref 200, .int (nI i)] [.int r] I1 (cr_rf τ1) 247
  refine cr_aload_n h (j := 2) rfl rfl dL_law_484 ?_
  refine cr_aload_n h (j := 0) rfl rfl dL_law_485 ?_
  refine cr_iload_n h (j := 3) rfl rfl dL_law_486 ?_
  refine cr_iconst h (v := (1 : Int32)) (by decide) dL_law_487 ?_
  refine cr_iadd h dL_law_488 ?_
  refine lw_ld h hX hL (i + 1) (nI_add i 1) (by omega) dL_law_489 ?_
  refine cr_callV h (c0 := 9) (T0 := TX9) (b := 200) C_yX9_lose cZ_yX9_lose wm_L_59 wv_yX9_lose we_yX9_lose (by decide) rfl rfl (lw_rmS (by decide) (by decide)) (As := [.int (xs (i + 1))]) rfl (Nat.le_of_ble_eq_true rfl) dL_law_490 (h9 _ fun I2 rel2 => ?_)
  show cr_V Γ 493 [.ref 1300, .ref 0, .ref 200, .int (nI i)] [.int r, .int r] I2 (cr_rf τ1) 247
  exact cr_icmp_eq h (tgt := 1303) (by decide) dL_law_493 (fun _ => next _ _ rel2) (fun c => absurd rfl c)
theorem lc_10 {nm : String} {K : cr_K} {Γ : cr_G} (h : lw_Ok nm K Γ) {L : Nat} {xs : Nat → Int32} (hX : lw_X L xs Γ) (hL : L ≤ 3072) {i : Nat} (hi : i + 6 ≤ L) {τ : Nat → Nat} {I : cr_I} (rel : cr_Rel τ I) (next : ∀ (τ' : Nat → Nat) (I' : cr_I), cr_Rel τ' I' → cr_V Γ 1303 [.ref 1300, .ref 0, .ref 200, .int (nI i)] [] I' (cr_rf τ') 247) : cr_V Γ 498 [.ref 1300, .ref 0, .ref 200, .int (nI i)] [] I (cr_rf τ) 247 := by
  refine cr_aload_n h (j := 1) rfl rfl dL_law_498 ?_
  refine cr_aload_n h (j := 0) rfl rfl dL_law_499 ?_
  refine cr_iload_n h (j := 3) rfl rfl dL_law_500 ?_
  refine cr_iconst h (v := (1 : Int32)) (by decide) dL_law_501 ?_
  refine cr_iadd h dL_law_502 ?_
  refine lw_ld h hX hL (i + 1) (nI_add i 1) (by omega) dL_law_503 ?_
  refine cr_aload_n h (j := 0) rfl rfl dL_law_504 ?_
  refine cr_iload_n h (j := 3) rfl rfl dL_law_505 ?_
  refine cr_iconst h (v := (2 : Int32)) (by decide) dL_law_506 ?_
  refine cr_iadd h dL_law_507 ?_
  refine lw_ld h hX hL (i + 2) (nI_add i 2) (by omega) dL_law_508 ?_
  refine cr_aload_n h (j := 0) rfl rfl dL_law_509 ?_
  refine cr_iload_n h (j := 3) rfl rfl dL_law_510 ?_
  refine cr_iconst h (v := (3 : Int32)) (by decide) dL_law_511 ?_
  refine cr_iadd h dL_law_512 ?_
  refine lw_ld h hX hL (i + 3) (nI_add i 3) (by omega) dL_law_513 ?_
  refine cr_aload_n h (j := 0) rfl rfl dL_law_514 ?_
  refine cr_iload_n h (j := 3) rfl rfl dL_law_515 ?_
  refine cr_iconst h (v := (4 : Int32)) (by decide) dL_law_516 ?_
  refine cr_iadd h dL_law_517 ?_
  refine lw_ld h hX hL (i + 4) (nI_add i 4) (by omega) dL_law_518 ?_
  refine cr_callV h (c0 := 8) (T0 := TX8) (b := 0) C_yX8_hill cZ_yX8_hill wm_L_60 wv_yX8_hill we_yX8_hill (by decide) rfl rfl (lw_rmS (by decide) (by decide)) (As := [.int (xs (i + 1)), .int (xs (i + 2)), .int (xs (i + 3)), .int (xs (i + 4))]) rfl (Nat.le_of_ble_eq_true rfl) dL_law_519 (S_hill τ I _ rel fun r I1 τ1 h9 => ?_)
  show cr_V Γ 522 [.ref 1300, .ref 0, .ref 200, .int (nI i)] [.int r] I1 (cr_rf τ1) 247
  refine cr_aload_n h (j := 2) rfl rfl dL_law_522 ?_
  refine cr_aload_n h (j := 0) rfl rfl dL_law_523 ?_
  refine cr_iload_n h (j := 3) rfl rfl dL_law_524 ?_
  refine cr_iconst h (v := (1 : Int32)) (by decide) dL_law_525 ?_
  refine cr_iadd h dL_law_526 ?_
  refine lw_ld h hX hL (i + 1) (nI_add i 1) (by omega) dL_law_527 ?_
  refine cr_aload_n h (j := 0) rfl rfl dL_law_528 ?_
  refine cr_iload_n h (j := 3) rfl rfl dL_law_529 ?_
  refine cr_iconst h (v := (2 : Int32)) (by decide) dL_law_530 ?_
  refine cr_iadd h dL_law_531 ?_
  refine lw_ld h hX hL (i + 2) (nI_add i 2) (by omega) dL_law_532 ?_
  refine cr_aload_n h (j := 0) rfl rfl dL_law_533 ?_
  refine cr_iload_n h (j := 3) rfl rfl dL_law_534 ?_
  refine cr_iconst h (v := (3 : Int32)) (by decide) dL_law_535 ?_
  refine cr_iadd h dL_law_536 ?_
  refine lw_ld h hX hL (i + 3) (nI_add i 3) (by omega) dL_law_537 ?_
  refine cr_aload_n h (j := 0) rfl rfl dL_law_538 ?_
  refine cr_iload_n h (j := 3) rfl rfl dL_law_539 ?_
  refine cr_iconst h (v := (4 : Int32)) (by decide) dL_law_540 ?_
  refine cr_iadd h dL_law_541 ?_
  refine lw_ld h hX hL (i + 4) (nI_add i 4) (by omega) dL_law_542 ?_
  refine cr_callV h (c0 := 9) (T0 := TX9) (b := 200) C_yX9_hill cZ_yX9_hill wm_L_64 wv_yX9_hill we_yX9_hill (by decide) rfl rfl (lw_rmS (by decide) (by decide)) (As := [.int (xs (i + 1)), .int (xs (i + 2)), .int (xs (i + 3)), .int (xs (i + 4))]) rfl (Nat.le_of_ble_eq_true rfl) dL_law_543 (h9 _ fun I2 rel2 => ?_)
  show cr_V Γ 546 [.ref 1300, .ref 0, .ref 200, .int (nI i)] [.int r, .int r] I2 (cr_rf τ1) 247
  exact cr_icmp_eq h (tgt := 1303) (by decide) dL_law_546 (fun _ => next _ _ rel2) (fun c => absurd rfl c)
theorem lc_11 {nm : String} {K : cr_K} {Γ : cr_G} (h : lw_Ok nm K Γ) {L : Nat} {xs : Nat → Int32} (hX : lw_X L xs Γ) (hL : L ≤ 3072) {i : Nat} (hi : i + 6 ≤ L) {τ : Nat → Nat} {I : cr_I} (rel : cr_Rel τ I) (next : ∀ (τ' : Nat → Nat) (I' : cr_I), cr_Rel τ' I' → cr_V Γ 1303 [.ref 1300, .ref 0, .ref 200, .int (nI i)] [] I' (cr_rf τ') 247) : cr_V Γ 551 [.ref 1300, .ref 0, .ref 200, .int (nI i)] [] I (cr_rf τ) 247 := by
  refine cr_aload_n h (j := 1) rfl rfl dL_law_551 ?_
  refine cr_aload_n h (j := 0) rfl rfl dL_law_552 ?_
  refine cr_iload_n h (j := 3) rfl rfl dL_law_553 ?_
  refine cr_iconst h (v := (1 : Int32)) (by decide) dL_law_554 ?_
  refine cr_iadd h dL_law_555 ?_
  refine lw_ld h hX hL (i + 1) (nI_add i 1) (by omega) dL_law_556 ?_
  refine cr_aload_n h (j := 0) rfl rfl dL_law_557 ?_
  refine cr_iload_n h (j := 3) rfl rfl dL_law_558 ?_
  refine cr_iconst h (v := (2 : Int32)) (by decide) dL_law_559 ?_
  refine cr_iadd h dL_law_560 ?_
  refine lw_ld h hX hL (i + 2) (nI_add i 2) (by omega) dL_law_561 ?_
  refine cr_aload_n h (j := 0) rfl rfl dL_law_562 ?_
  refine cr_iload_n h (j := 3) rfl rfl dL_law_563 ?_
  refine cr_iconst h (v := (3 : Int32)) (by decide) dL_law_564 ?_
  refine cr_iadd h dL_law_565 ?_
  refine lw_ld h hX hL (i + 3) (nI_add i 3) (by omega) dL_law_566 ?_
  refine cr_aload_n h (j := 0) rfl rfl dL_law_567 ?_
  refine cr_iload_n h (j := 3) rfl rfl dL_law_568 ?_
  refine cr_iconst h (v := (4 : Int32)) (by decide) dL_law_569 ?_
  refine cr_iadd h dL_law_570 ?_
  refine lw_ld h hX hL (i + 4) (nI_add i 4) (by omega) dL_law_571 ?_
  refine cr_callV h (c0 := 8) (T0 := TX8) (b := 0) C_yX8_stranger cZ_yX8_stranger wm_L_65 wv_yX8_stranger we_yX8_stranger (by decide) rfl rfl (lw_rmS (by decide) (by decide)) (As := [.int (xs (i + 1)), .int (xs (i + 2)), .int (xs (i + 3)), .int (xs (i + 4))]) rfl (Nat.le_of_ble_eq_true rfl) dL_law_572 (S_stranger τ I _ rel fun r I1 τ1 h9 => ?_)
  show cr_V Γ 575 [.ref 1300, .ref 0, .ref 200, .int (nI i)] [.int r] I1 (cr_rf τ1) 247
  refine cr_aload_n h (j := 2) rfl rfl dL_law_575 ?_
  refine cr_aload_n h (j := 0) rfl rfl dL_law_576 ?_
  refine cr_iload_n h (j := 3) rfl rfl dL_law_577 ?_
  refine cr_iconst h (v := (1 : Int32)) (by decide) dL_law_578 ?_
  refine cr_iadd h dL_law_579 ?_
  refine lw_ld h hX hL (i + 1) (nI_add i 1) (by omega) dL_law_580 ?_
  refine cr_aload_n h (j := 0) rfl rfl dL_law_581 ?_
  refine cr_iload_n h (j := 3) rfl rfl dL_law_582 ?_
  refine cr_iconst h (v := (2 : Int32)) (by decide) dL_law_583 ?_
  refine cr_iadd h dL_law_584 ?_
  refine lw_ld h hX hL (i + 2) (nI_add i 2) (by omega) dL_law_585 ?_
  refine cr_aload_n h (j := 0) rfl rfl dL_law_586 ?_
  refine cr_iload_n h (j := 3) rfl rfl dL_law_587 ?_
  refine cr_iconst h (v := (3 : Int32)) (by decide) dL_law_588 ?_
  refine cr_iadd h dL_law_589 ?_
  refine lw_ld h hX hL (i + 3) (nI_add i 3) (by omega) dL_law_590 ?_
  refine cr_aload_n h (j := 0) rfl rfl dL_law_591 ?_
  refine cr_iload_n h (j := 3) rfl rfl dL_law_592 ?_
  refine cr_iconst h (v := (4 : Int32)) (by decide) dL_law_593 ?_
  refine cr_iadd h dL_law_594 ?_
  refine lw_ld h hX hL (i + 4) (nI_add i 4) (by omega) dL_law_595 ?_
  refine cr_callV h (c0 := 9) (T0 := TX9) (b := 200) C_yX9_stranger cZ_yX9_stranger wm_L_68 wv_yX9_stranger we_yX9_stranger (by decide) rfl rfl (lw_rmS (by decide) (by decide)) (As := [.int (xs (i + 1)), .int (xs (i + 2)), .int (xs (i + 3)), .int (xs (i + 4))]) rfl (Nat.le_of_ble_eq_true rfl) dL_law_596 (h9 _ fun I2 rel2 => ?_)
  show cr_V Γ 599 [.ref 1300, .ref 0, .ref 200, .int (nI i)] [.int r, .int r] I2 (cr_rf τ1) 247
  exact cr_icmp_eq h (tgt := 1303) (by decide) dL_law_599 (fun _ => next _ _ rel2) (fun c => absurd rfl c)
theorem lc_12 {nm : String} {K : cr_K} {Γ : cr_G} (h : lw_Ok nm K Γ) {L : Nat} {xs : Nat → Int32} (hX : lw_X L xs Γ) (hL : L ≤ 3072) {i : Nat} (hi : i + 6 ≤ L) {τ : Nat → Nat} {I : cr_I} (rel : cr_Rel τ I) (next : ∀ (τ' : Nat → Nat) (I' : cr_I), cr_Rel τ' I' → cr_V Γ 1303 [.ref 1300, .ref 0, .ref 200, .int (nI i)] [] I' (cr_rf τ') 247) : cr_V Γ 604 [.ref 1300, .ref 0, .ref 200, .int (nI i)] [] I (cr_rf τ) 247 := by
  refine cr_aload_n h (j := 1) rfl rfl dL_law_604 ?_
  refine cr_aload_n h (j := 0) rfl rfl dL_law_605 ?_
  refine cr_iload_n h (j := 3) rfl rfl dL_law_606 ?_
  refine cr_iconst h (v := (1 : Int32)) (by decide) dL_law_607 ?_
  refine cr_iadd h dL_law_608 ?_
  refine lw_ld h hX hL (i + 1) (nI_add i 1) (by omega) dL_law_609 ?_
  refine cr_aload_n h (j := 0) rfl rfl dL_law_610 ?_
  refine cr_iload_n h (j := 3) rfl rfl dL_law_611 ?_
  refine cr_iconst h (v := (2 : Int32)) (by decide) dL_law_612 ?_
  refine cr_iadd h dL_law_613 ?_
  refine lw_ld h hX hL (i + 2) (nI_add i 2) (by omega) dL_law_614 ?_
  refine cr_aload_n h (j := 0) rfl rfl dL_law_615 ?_
  refine cr_iload_n h (j := 3) rfl rfl dL_law_616 ?_
  refine cr_iconst h (v := (3 : Int32)) (by decide) dL_law_617 ?_
  refine cr_iadd h dL_law_618 ?_
  refine lw_ld h hX hL (i + 3) (nI_add i 3) (by omega) dL_law_619 ?_
  refine cr_callV h (c0 := 8) (T0 := TX8) (b := 0) C_yX8_at cZ_yX8_at wm_L_69 wv_yX8_at we_yX8_at (by decide) rfl rfl (lw_rmS (by decide) (by decide)) (As := [.int (xs (i + 1)), .int (xs (i + 2)), .int (xs (i + 3))]) rfl (Nat.le_of_ble_eq_true rfl) dL_law_620 (S_at τ I _ rel fun r I1 τ1 h9 => ?_)
  show cr_V Γ 623 [.ref 1300, .ref 0, .ref 200, .int (nI i)] [.int r] I1 (cr_rf τ1) 247
  refine cr_aload_n h (j := 2) rfl rfl dL_law_623 ?_
  refine cr_aload_n h (j := 0) rfl rfl dL_law_624 ?_
  refine cr_iload_n h (j := 3) rfl rfl dL_law_625 ?_
  refine cr_iconst h (v := (1 : Int32)) (by decide) dL_law_626 ?_
  refine cr_iadd h dL_law_627 ?_
  refine lw_ld h hX hL (i + 1) (nI_add i 1) (by omega) dL_law_628 ?_
  refine cr_aload_n h (j := 0) rfl rfl dL_law_629 ?_
  refine cr_iload_n h (j := 3) rfl rfl dL_law_630 ?_
  refine cr_iconst h (v := (2 : Int32)) (by decide) dL_law_631 ?_
  refine cr_iadd h dL_law_632 ?_
  refine lw_ld h hX hL (i + 2) (nI_add i 2) (by omega) dL_law_633 ?_
  refine cr_aload_n h (j := 0) rfl rfl dL_law_634 ?_
  refine cr_iload_n h (j := 3) rfl rfl dL_law_635 ?_
  refine cr_iconst h (v := (3 : Int32)) (by decide) dL_law_636 ?_
  refine cr_iadd h dL_law_637 ?_
  refine lw_ld h hX hL (i + 3) (nI_add i 3) (by omega) dL_law_638 ?_
  refine cr_callV h (c0 := 9) (T0 := TX9) (b := 200) C_yX9_at cZ_yX9_at wm_L_73 wv_yX9_at we_yX9_at (by decide) rfl rfl (lw_rmS (by decide) (by decide)) (As := [.int (xs (i + 1)), .int (xs (i + 2)), .int (xs (i + 3))]) rfl (Nat.le_of_ble_eq_true rfl) dL_law_639 (h9 _ fun I2 rel2 => ?_)
  show cr_V Γ 642 [.ref 1300, .ref 0, .ref 200, .int (nI i)] [.int r, .int r] I2 (cr_rf τ1) 247
  exact cr_icmp_eq h (tgt := 1303) (by decide) dL_law_642 (fun _ => next _ _ rel2) (fun c => absurd rfl c)
theorem lc_13 {nm : String} {K : cr_K} {Γ : cr_G} (h : lw_Ok nm K Γ) {L : Nat} {xs : Nat → Int32} (hX : lw_X L xs Γ) (hL : L ≤ 3072) {i : Nat} (hi : i + 6 ≤ L) {τ : Nat → Nat} {I : cr_I} (rel : cr_Rel τ I) (next : ∀ (τ' : Nat → Nat) (I' : cr_I), cr_Rel τ' I' → cr_V Γ 1303 [.ref 1300, .ref 0, .ref 200, .int (nI i)] [] I' (cr_rf τ') 247) : cr_V Γ 647 [.ref 1300, .ref 0, .ref 200, .int (nI i)] [] I (cr_rf τ) 247 := by
  refine cr_aload_n h (j := 1) rfl rfl dL_law_647 ?_
  refine cr_aload_n h (j := 0) rfl rfl dL_law_648 ?_
  refine cr_iload_n h (j := 3) rfl rfl dL_law_649 ?_
  refine cr_iconst h (v := (1 : Int32)) (by decide) dL_law_650 ?_
  refine cr_iadd h dL_law_651 ?_
  refine lw_ld h hX hL (i + 1) (nI_add i 1) (by omega) dL_law_652 ?_
  refine cr_callV h (c0 := 8) (T0 := TX8) (b := 0) C_yX8_touch cZ_yX8_touch wm_L_74 wv_yX8_touch we_yX8_touch (by decide) rfl rfl (lw_rmS (by decide) (by decide)) (As := [.int (xs (i + 1))]) rfl (Nat.le_of_ble_eq_true rfl) dL_law_653 (S_touch τ I _ rel fun r I1 τ1 h9 => ?_)
  show cr_V Γ 656 [.ref 1300, .ref 0, .ref 200, .int (nI i)] [.int r] I1 (cr_rf τ1) 247
  refine cr_aload_n h (j := 2) rfl rfl dL_law_656 ?_
  refine cr_aload_n h (j := 0) rfl rfl dL_law_657 ?_
  refine cr_iload_n h (j := 3) rfl rfl dL_law_658 ?_
  refine cr_iconst h (v := (1 : Int32)) (by decide) dL_law_659 ?_
  refine cr_iadd h dL_law_660 ?_
  refine lw_ld h hX hL (i + 1) (nI_add i 1) (by omega) dL_law_661 ?_
  refine cr_callV h (c0 := 9) (T0 := TX9) (b := 200) C_yX9_touch cZ_yX9_touch wm_L_77 wv_yX9_touch we_yX9_touch (by decide) rfl rfl (lw_rmS (by decide) (by decide)) (As := [.int (xs (i + 1))]) rfl (Nat.le_of_ble_eq_true rfl) dL_law_662 (h9 _ fun I2 rel2 => ?_)
  show cr_V Γ 665 [.ref 1300, .ref 0, .ref 200, .int (nI i)] [.int r, .int r] I2 (cr_rf τ1) 247
  exact cr_icmp_eq h (tgt := 1303) (by decide) dL_law_665 (fun _ => next _ _ rel2) (fun c => absurd rfl c)
theorem lc_14 {nm : String} {K : cr_K} {Γ : cr_G} (h : lw_Ok nm K Γ) {L : Nat} {xs : Nat → Int32} (hX : lw_X L xs Γ) (hL : L ≤ 3072) {i : Nat} (hi : i + 6 ≤ L) {τ : Nat → Nat} {I : cr_I} (rel : cr_Rel τ I) (next : ∀ (τ' : Nat → Nat) (I' : cr_I), cr_Rel τ' I' → cr_V Γ 1303 [.ref 1300, .ref 0, .ref 200, .int (nI i)] [] I' (cr_rf τ') 247) : cr_V Γ 670 [.ref 1300, .ref 0, .ref 200, .int (nI i)] [] I (cr_rf τ) 247 := by
  refine cr_aload_n h (j := 1) rfl rfl dL_law_670 ?_
  refine cr_aload_n h (j := 0) rfl rfl dL_law_671 ?_
  refine cr_iload_n h (j := 3) rfl rfl dL_law_672 ?_
  refine cr_iconst h (v := (1 : Int32)) (by decide) dL_law_673 ?_
  refine cr_iadd h dL_law_674 ?_
  refine lw_ld h hX hL (i + 1) (nI_add i 1) (by omega) dL_law_675 ?_
  refine cr_callV h (c0 := 8) (T0 := TX8) (b := 0) C_yX8_least cZ_yX8_least wm_L_78 wv_yX8_least we_yX8_least (by decide) rfl rfl (lw_rmS (by decide) (by decide)) (As := [.int (xs (i + 1))]) rfl (Nat.le_of_ble_eq_true rfl) dL_law_676 (S_least τ I _ rel fun r I1 τ1 h9 => ?_)
  show cr_V Γ 679 [.ref 1300, .ref 0, .ref 200, .int (nI i)] [.int r] I1 (cr_rf τ1) 247
  refine cr_aload_n h (j := 2) rfl rfl dL_law_679 ?_
  refine cr_aload_n h (j := 0) rfl rfl dL_law_680 ?_
  refine cr_iload_n h (j := 3) rfl rfl dL_law_681 ?_
  refine cr_iconst h (v := (1 : Int32)) (by decide) dL_law_682 ?_
  refine cr_iadd h dL_law_683 ?_
  refine lw_ld h hX hL (i + 1) (nI_add i 1) (by omega) dL_law_684 ?_
  refine cr_callV h (c0 := 9) (T0 := TX9) (b := 200) C_yX9_least cZ_yX9_least wm_L_81 wv_yX9_least we_yX9_least (by decide) rfl rfl (lw_rmS (by decide) (by decide)) (As := [.int (xs (i + 1))]) rfl (Nat.le_of_ble_eq_true rfl) dL_law_685 (h9 _ fun I2 rel2 => ?_)
  show cr_V Γ 688 [.ref 1300, .ref 0, .ref 200, .int (nI i)] [.int r, .int r] I2 (cr_rf τ1) 247
  exact cr_icmp_eq h (tgt := 1303) (by decide) dL_law_688 (fun _ => next _ _ rel2) (fun c => absurd rfl c)
theorem lc_15 {nm : String} {K : cr_K} {Γ : cr_G} (h : lw_Ok nm K Γ) {L : Nat} {xs : Nat → Int32} (hX : lw_X L xs Γ) (hL : L ≤ 3072) {i : Nat} (hi : i + 6 ≤ L) {τ : Nat → Nat} {I : cr_I} (rel : cr_Rel τ I) (next : ∀ (τ' : Nat → Nat) (I' : cr_I), cr_Rel τ' I' → cr_V Γ 1303 [.ref 1300, .ref 0, .ref 200, .int (nI i)] [] I' (cr_rf τ') 247) : cr_V Γ 693 [.ref 1300, .ref 0, .ref 200, .int (nI i)] [] I (cr_rf τ) 247 := by
  refine cr_aload_n h (j := 1) rfl rfl dL_law_693 ?_
  refine cr_aload_n h (j := 0) rfl rfl dL_law_694 ?_
  refine cr_iload_n h (j := 3) rfl rfl dL_law_695 ?_
  refine cr_iconst h (v := (1 : Int32)) (by decide) dL_law_696 ?_
  refine cr_iadd h dL_law_697 ?_
  refine lw_ld h hX hL (i + 1) (nI_add i 1) (by omega) dL_law_698 ?_
  refine cr_callV h (c0 := 8) (T0 := TX8) (b := 0) C_yX8_dip cZ_yX8_dip wm_L_82 wv_yX8_dip we_yX8_dip (by decide) rfl rfl (lw_rmS (by decide) (by decide)) (As := [.int (xs (i + 1))]) rfl (Nat.le_of_ble_eq_true rfl) dL_law_699 (S_dip τ I _ rel fun r I1 τ1 h9 => ?_)
  show cr_V Γ 702 [.ref 1300, .ref 0, .ref 200, .int (nI i)] [.int r] I1 (cr_rf τ1) 247
  refine cr_aload_n h (j := 2) rfl rfl dL_law_702 ?_
  refine cr_aload_n h (j := 0) rfl rfl dL_law_703 ?_
  refine cr_iload_n h (j := 3) rfl rfl dL_law_704 ?_
  refine cr_iconst h (v := (1 : Int32)) (by decide) dL_law_705 ?_
  refine cr_iadd h dL_law_706 ?_
  refine lw_ld h hX hL (i + 1) (nI_add i 1) (by omega) dL_law_707 ?_
  refine cr_callV h (c0 := 9) (T0 := TX9) (b := 200) C_yX9_dip cZ_yX9_dip wm_L_85 wv_yX9_dip we_yX9_dip (by decide) rfl rfl (lw_rmS (by decide) (by decide)) (As := [.int (xs (i + 1))]) rfl (Nat.le_of_ble_eq_true rfl) dL_law_708 (h9 _ fun I2 rel2 => ?_)
  show cr_V Γ 711 [.ref 1300, .ref 0, .ref 200, .int (nI i)] [.int r, .int r] I2 (cr_rf τ1) 247
  exact cr_icmp_eq h (tgt := 1303) (by decide) dL_law_711 (fun _ => next _ _ rel2) (fun c => absurd rfl c)
theorem lc_16 {nm : String} {K : cr_K} {Γ : cr_G} (h : lw_Ok nm K Γ) {L : Nat} {xs : Nat → Int32} (hX : lw_X L xs Γ) (hL : L ≤ 3072) {i : Nat} (hi : i + 6 ≤ L) {τ : Nat → Nat} {I : cr_I} (rel : cr_Rel τ I) (next : ∀ (τ' : Nat → Nat) (I' : cr_I), cr_Rel τ' I' → cr_V Γ 1303 [.ref 1300, .ref 0, .ref 200, .int (nI i)] [] I' (cr_rf τ') 247) : cr_V Γ 716 [.ref 1300, .ref 0, .ref 200, .int (nI i)] [] I (cr_rf τ) 247 := by
  refine cr_aload_n h (j := 1) rfl rfl dL_law_716 ?_
  refine cr_callV h (c0 := 8) (T0 := TX8) (b := 0) C_yX8_grows cZ_yX8_grows wm_L_86 wv_yX8_grows we_yX8_grows (by decide) rfl rfl (lw_rmS (by decide) (by decide)) (As := []) rfl (Nat.le_of_ble_eq_true rfl) dL_law_717 (S_grows τ I _ rel fun r I1 τ1 h9 => ?_)
  show cr_V Γ 720 [.ref 1300, .ref 0, .ref 200, .int (nI i)] [.int r] I1 (cr_rf τ1) 247
  refine cr_aload_n h (j := 2) rfl rfl dL_law_720 ?_
  refine cr_callV h (c0 := 9) (T0 := TX9) (b := 200) C_yX9_grows cZ_yX9_grows wm_L_89 wv_yX9_grows we_yX9_grows (by decide) rfl rfl (lw_rmS (by decide) (by decide)) (As := []) rfl (Nat.le_of_ble_eq_true rfl) dL_law_721 (h9 _ fun I2 rel2 => ?_)
  show cr_V Γ 724 [.ref 1300, .ref 0, .ref 200, .int (nI i)] [.int r, .int r] I2 (cr_rf τ1) 247
  exact cr_icmp_eq h (tgt := 1303) (by decide) dL_law_724 (fun _ => next _ _ rel2) (fun c => absurd rfl c)
theorem lc_17 {nm : String} {K : cr_K} {Γ : cr_G} (h : lw_Ok nm K Γ) {L : Nat} {xs : Nat → Int32} (hX : lw_X L xs Γ) (hL : L ≤ 3072) {i : Nat} (hi : i + 6 ≤ L) {τ : Nat → Nat} {I : cr_I} (rel : cr_Rel τ I) (next : ∀ (τ' : Nat → Nat) (I' : cr_I), cr_Rel τ' I' → cr_V Γ 1303 [.ref 1300, .ref 0, .ref 200, .int (nI i)] [] I' (cr_rf τ') 247) : cr_V Γ 729 [.ref 1300, .ref 0, .ref 200, .int (nI i)] [] I (cr_rf τ) 247 := by
  refine cr_aload_n h (j := 1) rfl rfl dL_law_729 ?_
  refine cr_aload_n h (j := 0) rfl rfl dL_law_730 ?_
  refine cr_iload_n h (j := 3) rfl rfl dL_law_731 ?_
  refine cr_iconst h (v := (1 : Int32)) (by decide) dL_law_732 ?_
  refine cr_iadd h dL_law_733 ?_
  refine lw_ld h hX hL (i + 1) (nI_add i 1) (by omega) dL_law_734 ?_
  refine cr_aload_n h (j := 0) rfl rfl dL_law_735 ?_
  refine cr_iload_n h (j := 3) rfl rfl dL_law_736 ?_
  refine cr_iconst h (v := (2 : Int32)) (by decide) dL_law_737 ?_
  refine cr_iadd h dL_law_738 ?_
  refine lw_ld h hX hL (i + 2) (nI_add i 2) (by omega) dL_law_739 ?_
  refine cr_aload_n h (j := 0) rfl rfl dL_law_740 ?_
  refine cr_iload_n h (j := 3) rfl rfl dL_law_741 ?_
  refine cr_iconst h (v := (3 : Int32)) (by decide) dL_law_742 ?_
  refine cr_iadd h dL_law_743 ?_
  refine lw_ld h hX hL (i + 3) (nI_add i 3) (by omega) dL_law_744 ?_
  refine cr_callV h (c0 := 8) (T0 := TX8) (b := 0) C_yX8_safe cZ_yX8_safe wm_L_90 wv_yX8_safe we_yX8_safe (by decide) rfl rfl (lw_rmS (by decide) (by decide)) (As := [.int (xs (i + 1)), .int (xs (i + 2)), .int (xs (i + 3))]) rfl (Nat.le_of_ble_eq_true rfl) dL_law_745 (S_safe τ I _ rel fun r I1 τ1 h9 => ?_)
  show cr_V Γ 748 [.ref 1300, .ref 0, .ref 200, .int (nI i)] [.int r] I1 (cr_rf τ1) 247
  refine cr_aload_n h (j := 2) rfl rfl dL_law_748 ?_
  refine cr_aload_n h (j := 0) rfl rfl dL_law_749 ?_
  refine cr_iload_n h (j := 3) rfl rfl dL_law_750 ?_
  refine cr_iconst h (v := (1 : Int32)) (by decide) dL_law_751 ?_
  refine cr_iadd h dL_law_752 ?_
  refine lw_ld h hX hL (i + 1) (nI_add i 1) (by omega) dL_law_753 ?_
  refine cr_aload_n h (j := 0) rfl rfl dL_law_754 ?_
  refine cr_iload_n h (j := 3) rfl rfl dL_law_755 ?_
  refine cr_iconst h (v := (2 : Int32)) (by decide) dL_law_756 ?_
  refine cr_iadd h dL_law_757 ?_
  refine lw_ld h hX hL (i + 2) (nI_add i 2) (by omega) dL_law_758 ?_
  refine cr_aload_n h (j := 0) rfl rfl dL_law_759 ?_
  refine cr_iload_n h (j := 3) rfl rfl dL_law_760 ?_
  refine cr_iconst h (v := (3 : Int32)) (by decide) dL_law_761 ?_
  refine cr_iadd h dL_law_762 ?_
  refine lw_ld h hX hL (i + 3) (nI_add i 3) (by omega) dL_law_763 ?_
  refine cr_callV h (c0 := 9) (T0 := TX9) (b := 200) C_yX9_safe cZ_yX9_safe wm_L_93 wv_yX9_safe we_yX9_safe (by decide) rfl rfl (lw_rmS (by decide) (by decide)) (As := [.int (xs (i + 1)), .int (xs (i + 2)), .int (xs (i + 3))]) rfl (Nat.le_of_ble_eq_true rfl) dL_law_764 (h9 _ fun I2 rel2 => ?_)
  show cr_V Γ 767 [.ref 1300, .ref 0, .ref 200, .int (nI i)] [.int r, .int r] I2 (cr_rf τ1) 247
  exact cr_icmp_eq h (tgt := 1303) (by decide) dL_law_767 (fun _ => next _ _ rel2) (fun c => absurd rfl c)
theorem lc_18 {nm : String} {K : cr_K} {Γ : cr_G} (h : lw_Ok nm K Γ) {L : Nat} {xs : Nat → Int32} (hX : lw_X L xs Γ) (hL : L ≤ 3072) {i : Nat} (hi : i + 6 ≤ L) {τ : Nat → Nat} {I : cr_I} (rel : cr_Rel τ I) (next : ∀ (τ' : Nat → Nat) (I' : cr_I), cr_Rel τ' I' → cr_V Γ 1303 [.ref 1300, .ref 0, .ref 200, .int (nI i)] [] I' (cr_rf τ') 247) : cr_V Γ 772 [.ref 1300, .ref 0, .ref 200, .int (nI i)] [] I (cr_rf τ) 247 := by
  refine cr_aload_n h (j := 1) rfl rfl dL_law_772 ?_
  refine cr_aload_n h (j := 0) rfl rfl dL_law_773 ?_
  refine cr_iload_n h (j := 3) rfl rfl dL_law_774 ?_
  refine cr_iconst h (v := (1 : Int32)) (by decide) dL_law_775 ?_
  refine cr_iadd h dL_law_776 ?_
  refine lw_ld h hX hL (i + 1) (nI_add i 1) (by omega) dL_law_777 ?_
  refine cr_aload_n h (j := 0) rfl rfl dL_law_778 ?_
  refine cr_iload_n h (j := 3) rfl rfl dL_law_779 ?_
  refine cr_iconst h (v := (2 : Int32)) (by decide) dL_law_780 ?_
  refine cr_iadd h dL_law_781 ?_
  refine lw_ld h hX hL (i + 2) (nI_add i 2) (by omega) dL_law_782 ?_
  refine cr_callV h (c0 := 8) (T0 := TX8) (b := 0) C_yX8_need cZ_yX8_need wm_L_94 wv_yX8_need we_yX8_need (by decide) rfl rfl (lw_rmS (by decide) (by decide)) (As := [.int (xs (i + 1)), .int (xs (i + 2))]) rfl (Nat.le_of_ble_eq_true rfl) dL_law_783 (S_need τ I _ rel fun r I1 τ1 h9 => ?_)
  show cr_V Γ 786 [.ref 1300, .ref 0, .ref 200, .int (nI i)] [.int r] I1 (cr_rf τ1) 247
  refine cr_aload_n h (j := 2) rfl rfl dL_law_786 ?_
  refine cr_aload_n h (j := 0) rfl rfl dL_law_787 ?_
  refine cr_iload_n h (j := 3) rfl rfl dL_law_788 ?_
  refine cr_iconst h (v := (1 : Int32)) (by decide) dL_law_789 ?_
  refine cr_iadd h dL_law_790 ?_
  refine lw_ld h hX hL (i + 1) (nI_add i 1) (by omega) dL_law_791 ?_
  refine cr_aload_n h (j := 0) rfl rfl dL_law_792 ?_
  refine cr_iload_n h (j := 3) rfl rfl dL_law_793 ?_
  refine cr_iconst h (v := (2 : Int32)) (by decide) dL_law_794 ?_
  refine cr_iadd h dL_law_795 ?_
  refine lw_ld h hX hL (i + 2) (nI_add i 2) (by omega) dL_law_796 ?_
  refine cr_callV h (c0 := 9) (T0 := TX9) (b := 200) C_yX9_need cZ_yX9_need wm_L_97 wv_yX9_need we_yX9_need (by decide) rfl rfl (lw_rmS (by decide) (by decide)) (As := [.int (xs (i + 1)), .int (xs (i + 2))]) rfl (Nat.le_of_ble_eq_true rfl) dL_law_797 (h9 _ fun I2 rel2 => ?_)
  show cr_V Γ 800 [.ref 1300, .ref 0, .ref 200, .int (nI i)] [.int r, .int r] I2 (cr_rf τ1) 247
  exact cr_icmp_eq h (tgt := 1303) (by decide) dL_law_800 (fun _ => next _ _ rel2) (fun c => absurd rfl c)
theorem lc_19 {nm : String} {K : cr_K} {Γ : cr_G} (h : lw_Ok nm K Γ) {L : Nat} {xs : Nat → Int32} (hX : lw_X L xs Γ) (hL : L ≤ 3072) {i : Nat} (hi : i + 6 ≤ L) {τ : Nat → Nat} {I : cr_I} (rel : cr_Rel τ I) (next : ∀ (τ' : Nat → Nat) (I' : cr_I), cr_Rel τ' I' → cr_V Γ 1303 [.ref 1300, .ref 0, .ref 200, .int (nI i)] [] I' (cr_rf τ') 247) : cr_V Γ 805 [.ref 1300, .ref 0, .ref 200, .int (nI i)] [] I (cr_rf τ) 247 := by
  refine cr_aload_n h (j := 1) rfl rfl dL_law_805 ?_
  refine cr_aload_n h (j := 0) rfl rfl dL_law_806 ?_
  refine cr_iload_n h (j := 3) rfl rfl dL_law_807 ?_
  refine cr_iconst h (v := (1 : Int32)) (by decide) dL_law_808 ?_
  refine cr_iadd h dL_law_809 ?_
  refine lw_ld h hX hL (i + 1) (nI_add i 1) (by omega) dL_law_810 ?_
  refine cr_aload_n h (j := 0) rfl rfl dL_law_811 ?_
  refine cr_iload_n h (j := 3) rfl rfl dL_law_812 ?_
  refine cr_iconst h (v := (2 : Int32)) (by decide) dL_law_813 ?_
  refine cr_iadd h dL_law_814 ?_
  refine lw_ld h hX hL (i + 2) (nI_add i 2) (by omega) dL_law_815 ?_
  refine cr_aload_n h (j := 0) rfl rfl dL_law_816 ?_
  refine cr_iload_n h (j := 3) rfl rfl dL_law_817 ?_
  refine cr_iconst h (v := (3 : Int32)) (by decide) dL_law_818 ?_
  refine cr_iadd h dL_law_819 ?_
  refine lw_ld h hX hL (i + 3) (nI_add i 3) (by omega) dL_law_820 ?_
  refine cr_callV h (c0 := 8) (T0 := TX8) (b := 0) C_yX8_worst cZ_yX8_worst wm_L_98 wv_yX8_worst we_yX8_worst (by decide) rfl rfl (lw_rmS (by decide) (by decide)) (As := [.int (xs (i + 1)), .int (xs (i + 2)), .int (xs (i + 3))]) rfl (Nat.le_of_ble_eq_true rfl) dL_law_821 (S_worst τ I _ rel fun r I1 τ1 h9 => ?_)
  show cr_V Γ 824 [.ref 1300, .ref 0, .ref 200, .int (nI i)] [.int r] I1 (cr_rf τ1) 247
  refine cr_aload_n h (j := 2) rfl rfl dL_law_824 ?_
  refine cr_aload_n h (j := 0) rfl rfl dL_law_825 ?_
  refine cr_iload_n h (j := 3) rfl rfl dL_law_826 ?_
  refine cr_iconst h (v := (1 : Int32)) (by decide) dL_law_827 ?_
  refine cr_iadd h dL_law_828 ?_
  refine lw_ld h hX hL (i + 1) (nI_add i 1) (by omega) dL_law_829 ?_
  refine cr_aload_n h (j := 0) rfl rfl dL_law_830 ?_
  refine cr_iload_n h (j := 3) rfl rfl dL_law_831 ?_
  refine cr_iconst h (v := (2 : Int32)) (by decide) dL_law_832 ?_
  refine cr_iadd h dL_law_833 ?_
  refine lw_ld h hX hL (i + 2) (nI_add i 2) (by omega) dL_law_834 ?_
  refine cr_aload_n h (j := 0) rfl rfl dL_law_835 ?_
  refine cr_iload_n h (j := 3) rfl rfl dL_law_836 ?_
  refine cr_iconst h (v := (3 : Int32)) (by decide) dL_law_837 ?_
  refine cr_iadd h dL_law_838 ?_
  refine lw_ld h hX hL (i + 3) (nI_add i 3) (by omega) dL_law_839 ?_
  refine cr_callV h (c0 := 9) (T0 := TX9) (b := 200) C_yX9_worst cZ_yX9_worst wm_L_101 wv_yX9_worst we_yX9_worst (by decide) rfl rfl (lw_rmS (by decide) (by decide)) (As := [.int (xs (i + 1)), .int (xs (i + 2)), .int (xs (i + 3))]) rfl (Nat.le_of_ble_eq_true rfl) dL_law_840 (h9 _ fun I2 rel2 => ?_)
  show cr_V Γ 843 [.ref 1300, .ref 0, .ref 200, .int (nI i)] [.int r, .int r] I2 (cr_rf τ1) 247
  exact cr_icmp_eq h (tgt := 1303) (by decide) dL_law_843 (fun _ => next _ _ rel2) (fun c => absurd rfl c)
theorem lc_20 {nm : String} {K : cr_K} {Γ : cr_G} (h : lw_Ok nm K Γ) {L : Nat} {xs : Nat → Int32} (hX : lw_X L xs Γ) (hL : L ≤ 3072) {i : Nat} (hi : i + 6 ≤ L) {τ : Nat → Nat} {I : cr_I} (rel : cr_Rel τ I) (next : ∀ (τ' : Nat → Nat) (I' : cr_I), cr_Rel τ' I' → cr_V Γ 1303 [.ref 1300, .ref 0, .ref 200, .int (nI i)] [] I' (cr_rf τ') 247) : cr_V Γ 848 [.ref 1300, .ref 0, .ref 200, .int (nI i)] [] I (cr_rf τ) 247 := by
  refine cr_aload_n h (j := 1) rfl rfl dL_law_848 ?_
  refine cr_callV h (c0 := 8) (T0 := TX8) (b := 0) C_yX8_sparing cZ_yX8_sparing wm_L_102 wv_yX8_sparing we_yX8_sparing (by decide) rfl rfl (lw_rmS (by decide) (by decide)) (As := []) rfl (Nat.le_of_ble_eq_true rfl) dL_law_849 (S_sparing τ I _ rel fun r I1 τ1 h9 => ?_)
  show cr_V Γ 852 [.ref 1300, .ref 0, .ref 200, .int (nI i)] [.int r] I1 (cr_rf τ1) 247
  refine cr_aload_n h (j := 2) rfl rfl dL_law_852 ?_
  refine cr_callV h (c0 := 9) (T0 := TX9) (b := 200) C_yX9_sparing cZ_yX9_sparing wm_L_105 wv_yX9_sparing we_yX9_sparing (by decide) rfl rfl (lw_rmS (by decide) (by decide)) (As := []) rfl (Nat.le_of_ble_eq_true rfl) dL_law_853 (h9 _ fun I2 rel2 => ?_)
  show cr_V Γ 856 [.ref 1300, .ref 0, .ref 200, .int (nI i)] [.int r, .int r] I2 (cr_rf τ1) 247
  exact cr_icmp_eq h (tgt := 1303) (by decide) dL_law_856 (fun _ => next _ _ rel2) (fun c => absurd rfl c)
theorem lc_21 {nm : String} {K : cr_K} {Γ : cr_G} (h : lw_Ok nm K Γ) {L : Nat} {xs : Nat → Int32} (hX : lw_X L xs Γ) (hL : L ≤ 3072) {i : Nat} (hi : i + 6 ≤ L) {τ : Nat → Nat} {I : cr_I} (rel : cr_Rel τ I) (next : ∀ (τ' : Nat → Nat) (I' : cr_I), cr_Rel τ' I' → cr_V Γ 1303 [.ref 1300, .ref 0, .ref 200, .int (nI i)] [] I' (cr_rf τ') 247) : cr_V Γ 861 [.ref 1300, .ref 0, .ref 200, .int (nI i)] [] I (cr_rf τ) 247 := by
  refine cr_aload_n h (j := 1) rfl rfl dL_law_861 ?_
  refine cr_aload_n h (j := 0) rfl rfl dL_law_862 ?_
  refine cr_iload_n h (j := 3) rfl rfl dL_law_863 ?_
  refine cr_iconst h (v := (1 : Int32)) (by decide) dL_law_864 ?_
  refine cr_iadd h dL_law_865 ?_
  refine lw_ld h hX hL (i + 1) (nI_add i 1) (by omega) dL_law_866 ?_
  refine cr_aload_n h (j := 0) rfl rfl dL_law_867 ?_
  refine cr_iload_n h (j := 3) rfl rfl dL_law_868 ?_
  refine cr_iconst h (v := (2 : Int32)) (by decide) dL_law_869 ?_
  refine cr_iadd h dL_law_870 ?_
  refine lw_ld h hX hL (i + 2) (nI_add i 2) (by omega) dL_law_871 ?_
  refine cr_callV h (c0 := 8) (T0 := TX8) (b := 0) C_yX8_bears cZ_yX8_bears wm_L_106 wv_yX8_bears we_yX8_bears (by decide) rfl rfl (lw_rmS (by decide) (by decide)) (As := [.int (xs (i + 1)), .int (xs (i + 2))]) rfl (Nat.le_of_ble_eq_true rfl) dL_law_872 (S_bears τ I _ rel fun r I1 τ1 h9 => ?_)
  show cr_V Γ 875 [.ref 1300, .ref 0, .ref 200, .int (nI i)] [.int r] I1 (cr_rf τ1) 247
  refine cr_aload_n h (j := 2) rfl rfl dL_law_875 ?_
  refine cr_aload_n h (j := 0) rfl rfl dL_law_876 ?_
  refine cr_iload_n h (j := 3) rfl rfl dL_law_877 ?_
  refine cr_iconst h (v := (1 : Int32)) (by decide) dL_law_878 ?_
  refine cr_iadd h dL_law_879 ?_
  refine lw_ld h hX hL (i + 1) (nI_add i 1) (by omega) dL_law_880 ?_
  refine cr_aload_n h (j := 0) rfl rfl dL_law_881 ?_
  refine cr_iload_n h (j := 3) rfl rfl dL_law_882 ?_
  refine cr_iconst h (v := (2 : Int32)) (by decide) dL_law_883 ?_
  refine cr_iadd h dL_law_884 ?_
  refine lw_ld h hX hL (i + 2) (nI_add i 2) (by omega) dL_law_885 ?_
  refine cr_callV h (c0 := 9) (T0 := TX9) (b := 200) C_yX9_bears cZ_yX9_bears wm_L_109 wv_yX9_bears we_yX9_bears (by decide) rfl rfl (lw_rmS (by decide) (by decide)) (As := [.int (xs (i + 1)), .int (xs (i + 2))]) rfl (Nat.le_of_ble_eq_true rfl) dL_law_886 (h9 _ fun I2 rel2 => ?_)
  show cr_V Γ 889 [.ref 1300, .ref 0, .ref 200, .int (nI i)] [.int r, .int r] I2 (cr_rf τ1) 247
  exact cr_icmp_eq h (tgt := 1303) (by decide) dL_law_889 (fun _ => next _ _ rel2) (fun c => absurd rfl c)
theorem lc_22 {nm : String} {K : cr_K} {Γ : cr_G} (h : lw_Ok nm K Γ) {L : Nat} {xs : Nat → Int32} (hX : lw_X L xs Γ) (hL : L ≤ 3072) {i : Nat} (hi : i + 6 ≤ L) {τ : Nat → Nat} {I : cr_I} (rel : cr_Rel τ I) (next : ∀ (τ' : Nat → Nat) (I' : cr_I), cr_Rel τ' I' → cr_V Γ 1303 [.ref 1300, .ref 0, .ref 200, .int (nI i)] [] I' (cr_rf τ') 247) : cr_V Γ 894 [.ref 1300, .ref 0, .ref 200, .int (nI i)] [] I (cr_rf τ) 247 := by
  refine cr_aload_n h (j := 1) rfl rfl dL_law_894 ?_
  refine cr_aload_n h (j := 0) rfl rfl dL_law_895 ?_
  refine cr_iload_n h (j := 3) rfl rfl dL_law_896 ?_
  refine cr_iconst h (v := (1 : Int32)) (by decide) dL_law_897 ?_
  refine cr_iadd h dL_law_898 ?_
  refine lw_ld h hX hL (i + 1) (nI_add i 1) (by omega) dL_law_899 ?_
  refine cr_aload_n h (j := 0) rfl rfl dL_law_900 ?_
  refine cr_iload_n h (j := 3) rfl rfl dL_law_901 ?_
  refine cr_iconst h (v := (2 : Int32)) (by decide) dL_law_902 ?_
  refine cr_iadd h dL_law_903 ?_
  refine lw_ld h hX hL (i + 2) (nI_add i 2) (by omega) dL_law_904 ?_
  refine cr_aload_n h (j := 0) rfl rfl dL_law_905 ?_
  refine cr_iload_n h (j := 3) rfl rfl dL_law_906 ?_
  refine cr_iconst h (v := (3 : Int32)) (by decide) dL_law_907 ?_
  refine cr_iadd h dL_law_908 ?_
  refine lw_ld h hX hL (i + 3) (nI_add i 3) (by omega) dL_law_909 ?_
  refine cr_aload_n h (j := 0) rfl rfl dL_law_910 ?_
  refine cr_iload_n h (j := 3) rfl rfl dL_law_911 ?_
  refine cr_iconst h (v := (4 : Int32)) (by decide) dL_law_912 ?_
  refine cr_iadd h dL_law_913 ?_
  refine lw_ld h hX hL (i + 4) (nI_add i 4) (by omega) dL_law_914 ?_
  refine cr_aload_n h (j := 0) rfl rfl dL_law_915 ?_
  refine cr_iload_n h (j := 3) rfl rfl dL_law_916 ?_
  refine cr_iconst h (v := (5 : Int32)) (by decide) dL_law_917 ?_
  refine cr_iadd h dL_law_918 ?_
  refine lw_ld h hX hL (i + 5) (nI_add i 5) (by omega) dL_law_919 ?_
  refine cr_callV h (c0 := 8) (T0 := TX8) (b := 0) C_yX8_journey cZ_yX8_journey wm_L_110 wv_yX8_journey we_yX8_journey (by decide) rfl rfl (lw_rmS (by decide) (by decide)) (As := [.int (xs (i + 1)), .int (xs (i + 2)), .int (xs (i + 3)), .int (xs (i + 4)), .int (xs (i + 5))]) rfl (Nat.le_of_ble_eq_true rfl) dL_law_920 (S_journey τ I _ rel fun r I1 τ1 h9 => ?_)
  show cr_V Γ 923 [.ref 1300, .ref 0, .ref 200, .int (nI i)] [.int r] I1 (cr_rf τ1) 247
  refine cr_aload_n h (j := 2) rfl rfl dL_law_923 ?_
  refine cr_aload_n h (j := 0) rfl rfl dL_law_924 ?_
  refine cr_iload_n h (j := 3) rfl rfl dL_law_925 ?_
  refine cr_iconst h (v := (1 : Int32)) (by decide) dL_law_926 ?_
  refine cr_iadd h dL_law_927 ?_
  refine lw_ld h hX hL (i + 1) (nI_add i 1) (by omega) dL_law_928 ?_
  refine cr_aload_n h (j := 0) rfl rfl dL_law_929 ?_
  refine cr_iload_n h (j := 3) rfl rfl dL_law_930 ?_
  refine cr_iconst h (v := (2 : Int32)) (by decide) dL_law_931 ?_
  refine cr_iadd h dL_law_932 ?_
  refine lw_ld h hX hL (i + 2) (nI_add i 2) (by omega) dL_law_933 ?_
  refine cr_aload_n h (j := 0) rfl rfl dL_law_934 ?_
  refine cr_iload_n h (j := 3) rfl rfl dL_law_935 ?_
  refine cr_iconst h (v := (3 : Int32)) (by decide) dL_law_936 ?_
  refine cr_iadd h dL_law_937 ?_
  refine lw_ld h hX hL (i + 3) (nI_add i 3) (by omega) dL_law_938 ?_
  refine cr_aload_n h (j := 0) rfl rfl dL_law_939 ?_
  refine cr_iload_n h (j := 3) rfl rfl dL_law_940 ?_
  refine cr_iconst h (v := (4 : Int32)) (by decide) dL_law_941 ?_
  refine cr_iadd h dL_law_942 ?_
  refine lw_ld h hX hL (i + 4) (nI_add i 4) (by omega) dL_law_943 ?_
  refine cr_aload_n h (j := 0) rfl rfl dL_law_944 ?_
  refine cr_iload_n h (j := 3) rfl rfl dL_law_945 ?_
  refine cr_iconst h (v := (5 : Int32)) (by decide) dL_law_946 ?_
  refine cr_iadd h dL_law_947 ?_
  refine lw_ld h hX hL (i + 5) (nI_add i 5) (by omega) dL_law_948 ?_
  refine cr_callV h (c0 := 9) (T0 := TX9) (b := 200) C_yX9_journey cZ_yX9_journey wm_L_113 wv_yX9_journey we_yX9_journey (by decide) rfl rfl (lw_rmS (by decide) (by decide)) (As := [.int (xs (i + 1)), .int (xs (i + 2)), .int (xs (i + 3)), .int (xs (i + 4)), .int (xs (i + 5))]) rfl (Nat.le_of_ble_eq_true rfl) dL_law_949 (h9 _ fun I2 rel2 => ?_)
  show cr_V Γ 952 [.ref 1300, .ref 0, .ref 200, .int (nI i)] [.int r, .int r] I2 (cr_rf τ1) 247
  exact cr_icmp_eq h (tgt := 1303) (by decide) dL_law_952 (fun _ => next _ _ rel2) (fun c => absurd rfl c)
theorem lc_23 {nm : String} {K : cr_K} {Γ : cr_G} (h : lw_Ok nm K Γ) {L : Nat} {xs : Nat → Int32} (hX : lw_X L xs Γ) (hL : L ≤ 3072) {i : Nat} (hi : i + 6 ≤ L) {τ : Nat → Nat} {I : cr_I} (rel : cr_Rel τ I) (next : ∀ (τ' : Nat → Nat) (I' : cr_I), cr_Rel τ' I' → cr_V Γ 1303 [.ref 1300, .ref 0, .ref 200, .int (nI i)] [] I' (cr_rf τ') 247) : cr_V Γ 957 [.ref 1300, .ref 0, .ref 200, .int (nI i)] [] I (cr_rf τ) 247 := by
  refine cr_aload_n h (j := 1) rfl rfl dL_law_957 ?_
  refine cr_callV h (c0 := 8) (T0 := TX8) (b := 0) C_yX8_clear cZ_yX8_clear wm_L_114 wv_yX8_clear we_yX8_clear (by decide) rfl rfl (lw_rmS (by decide) (by decide)) (As := []) rfl (Nat.le_of_ble_eq_true rfl) dL_law_958 (S_clear τ I _ rel fun r I1 τ1 h9 => ?_)
  show cr_V Γ 961 [.ref 1300, .ref 0, .ref 200, .int (nI i)] [.int r] I1 (cr_rf τ1) 247
  refine cr_aload_n h (j := 2) rfl rfl dL_law_961 ?_
  refine cr_callV h (c0 := 9) (T0 := TX9) (b := 200) C_yX9_clear cZ_yX9_clear wm_L_117 wv_yX9_clear we_yX9_clear (by decide) rfl rfl (lw_rmS (by decide) (by decide)) (As := []) rfl (Nat.le_of_ble_eq_true rfl) dL_law_962 (h9 _ fun I2 rel2 => ?_)
  show cr_V Γ 965 [.ref 1300, .ref 0, .ref 200, .int (nI i)] [.int r, .int r] I2 (cr_rf τ1) 247
  exact cr_icmp_eq h (tgt := 1303) (by decide) dL_law_965 (fun _ => next _ _ rel2) (fun c => absurd rfl c)
theorem lc_24 {nm : String} {K : cr_K} {Γ : cr_G} (h : lw_Ok nm K Γ) {L : Nat} {xs : Nat → Int32} (hX : lw_X L xs Γ) (hL : L ≤ 3072) {i : Nat} (hi : i + 6 ≤ L) {τ : Nat → Nat} {I : cr_I} (rel : cr_Rel τ I) (next : ∀ (τ' : Nat → Nat) (I' : cr_I), cr_Rel τ' I' → cr_V Γ 1303 [.ref 1300, .ref 0, .ref 200, .int (nI i)] [] I' (cr_rf τ') 247) : cr_V Γ 970 [.ref 1300, .ref 0, .ref 200, .int (nI i)] [] I (cr_rf τ) 247 := by
  refine cr_aload_n h (j := 1) rfl rfl dL_law_970 ?_
  refine cr_aload_n h (j := 0) rfl rfl dL_law_971 ?_
  refine cr_iload_n h (j := 3) rfl rfl dL_law_972 ?_
  refine cr_iconst h (v := (1 : Int32)) (by decide) dL_law_973 ?_
  refine cr_iadd h dL_law_974 ?_
  refine lw_ld h hX hL (i + 1) (nI_add i 1) (by omega) dL_law_975 ?_
  refine cr_callV h (c0 := 8) (T0 := TX8) (b := 0) C_yX8_best cZ_yX8_best wm_L_118 wv_yX8_best we_yX8_best (by decide) rfl rfl (lw_rmS (by decide) (by decide)) (As := [.int (xs (i + 1))]) rfl (Nat.le_of_ble_eq_true rfl) dL_law_976 (S_best τ I _ rel fun r I1 τ1 h9 => ?_)
  show cr_V Γ 979 [.ref 1300, .ref 0, .ref 200, .int (nI i)] [.int r] I1 (cr_rf τ1) 247
  refine cr_aload_n h (j := 2) rfl rfl dL_law_979 ?_
  refine cr_aload_n h (j := 0) rfl rfl dL_law_980 ?_
  refine cr_iload_n h (j := 3) rfl rfl dL_law_981 ?_
  refine cr_iconst h (v := (1 : Int32)) (by decide) dL_law_982 ?_
  refine cr_iadd h dL_law_983 ?_
  refine lw_ld h hX hL (i + 1) (nI_add i 1) (by omega) dL_law_984 ?_
  refine cr_callV h (c0 := 9) (T0 := TX9) (b := 200) C_yX9_best cZ_yX9_best wm_L_121 wv_yX9_best we_yX9_best (by decide) rfl rfl (lw_rmS (by decide) (by decide)) (As := [.int (xs (i + 1))]) rfl (Nat.le_of_ble_eq_true rfl) dL_law_985 (h9 _ fun I2 rel2 => ?_)
  show cr_V Γ 988 [.ref 1300, .ref 0, .ref 200, .int (nI i)] [.int r, .int r] I2 (cr_rf τ1) 247
  exact cr_icmp_eq h (tgt := 1303) (by decide) dL_law_988 (fun _ => next _ _ rel2) (fun c => absurd rfl c)
theorem lc_25 {nm : String} {K : cr_K} {Γ : cr_G} (h : lw_Ok nm K Γ) {L : Nat} {xs : Nat → Int32} (hX : lw_X L xs Γ) (hL : L ≤ 3072) {i : Nat} (hi : i + 6 ≤ L) {τ : Nat → Nat} {I : cr_I} (rel : cr_Rel τ I) (next : ∀ (τ' : Nat → Nat) (I' : cr_I), cr_Rel τ' I' → cr_V Γ 1303 [.ref 1300, .ref 0, .ref 200, .int (nI i)] [] I' (cr_rf τ') 247) : cr_V Γ 993 [.ref 1300, .ref 0, .ref 200, .int (nI i)] [] I (cr_rf τ) 247 := by
  refine cr_aload_n h (j := 1) rfl rfl dL_law_993 ?_
  refine cr_aload_n h (j := 0) rfl rfl dL_law_994 ?_
  refine cr_iload_n h (j := 3) rfl rfl dL_law_995 ?_
  refine cr_iconst h (v := (1 : Int32)) (by decide) dL_law_996 ?_
  refine cr_iadd h dL_law_997 ?_
  refine lw_ld h hX hL (i + 1) (nI_add i 1) (by omega) dL_law_998 ?_
  refine cr_callV h (c0 := 8) (T0 := TX8) (b := 0) C_yX8_judge cZ_yX8_judge wm_L_122 wv_yX8_judge we_yX8_judge (by decide) rfl rfl (lw_rmS (by decide) (by decide)) (As := [.int (xs (i + 1))]) rfl (Nat.le_of_ble_eq_true rfl) dL_law_999 (S_judge τ I _ rel fun r I1 τ1 h9 => ?_)
  show cr_V Γ 1002 [.ref 1300, .ref 0, .ref 200, .int (nI i)] [.int r] I1 (cr_rf τ1) 247
  refine cr_aload_n h (j := 2) rfl rfl dL_law_1002 ?_
  refine cr_aload_n h (j := 0) rfl rfl dL_law_1003 ?_
  refine cr_iload_n h (j := 3) rfl rfl dL_law_1004 ?_
  refine cr_iconst h (v := (1 : Int32)) (by decide) dL_law_1005 ?_
  refine cr_iadd h dL_law_1006 ?_
  refine lw_ld h hX hL (i + 1) (nI_add i 1) (by omega) dL_law_1007 ?_
  refine cr_callV h (c0 := 9) (T0 := TX9) (b := 200) C_yX9_judge cZ_yX9_judge wm_L_125 wv_yX9_judge we_yX9_judge (by decide) rfl rfl (lw_rmS (by decide) (by decide)) (As := [.int (xs (i + 1))]) rfl (Nat.le_of_ble_eq_true rfl) dL_law_1008 (h9 _ fun I2 rel2 => ?_)
  show cr_V Γ 1011 [.ref 1300, .ref 0, .ref 200, .int (nI i)] [.int r, .int r] I2 (cr_rf τ1) 247
  exact cr_icmp_eq h (tgt := 1303) (by decide) dL_law_1011 (fun _ => next _ _ rel2) (fun c => absurd rfl c)
theorem lc_26 {nm : String} {K : cr_K} {Γ : cr_G} (h : lw_Ok nm K Γ) {L : Nat} {xs : Nat → Int32} (hX : lw_X L xs Γ) (hL : L ≤ 3072) {i : Nat} (hi : i + 6 ≤ L) {τ : Nat → Nat} {I : cr_I} (rel : cr_Rel τ I) (next : ∀ (τ' : Nat → Nat) (I' : cr_I), cr_Rel τ' I' → cr_V Γ 1303 [.ref 1300, .ref 0, .ref 200, .int (nI i)] [] I' (cr_rf τ') 247) : cr_V Γ 1016 [.ref 1300, .ref 0, .ref 200, .int (nI i)] [] I (cr_rf τ) 247 := by
  refine cr_aload_n h (j := 1) rfl rfl dL_law_1016 ?_
  refine cr_aload_n h (j := 0) rfl rfl dL_law_1017 ?_
  refine cr_iload_n h (j := 3) rfl rfl dL_law_1018 ?_
  refine cr_iconst h (v := (1 : Int32)) (by decide) dL_law_1019 ?_
  refine cr_iadd h dL_law_1020 ?_
  refine lw_ld h hX hL (i + 1) (nI_add i 1) (by omega) dL_law_1021 ?_
  refine cr_aload_n h (j := 0) rfl rfl dL_law_1022 ?_
  refine cr_iload_n h (j := 3) rfl rfl dL_law_1023 ?_
  refine cr_iconst h (v := (2 : Int32)) (by decide) dL_law_1024 ?_
  refine cr_iadd h dL_law_1025 ?_
  refine lw_ld h hX hL (i + 2) (nI_add i 2) (by omega) dL_law_1026 ?_
  refine cr_aload_n h (j := 0) rfl rfl dL_law_1027 ?_
  refine cr_iload_n h (j := 3) rfl rfl dL_law_1028 ?_
  refine cr_iconst h (v := (3 : Int32)) (by decide) dL_law_1029 ?_
  refine cr_iadd h dL_law_1030 ?_
  refine lw_ld h hX hL (i + 3) (nI_add i 3) (by omega) dL_law_1031 ?_
  refine cr_callV h (c0 := 8) (T0 := TX8) (b := 0) C_yX8_spared cZ_yX8_spared wm_L_126 wv_yX8_spared we_yX8_spared (by decide) rfl rfl (lw_rmS (by decide) (by decide)) (As := [.int (xs (i + 1)), .int (xs (i + 2)), .int (xs (i + 3))]) rfl (Nat.le_of_ble_eq_true rfl) dL_law_1032 (S_spared τ I _ rel fun r I1 τ1 h9 => ?_)
  show cr_V Γ 1035 [.ref 1300, .ref 0, .ref 200, .int (nI i)] [.int r] I1 (cr_rf τ1) 247
  refine cr_aload_n h (j := 2) rfl rfl dL_law_1035 ?_
  refine cr_aload_n h (j := 0) rfl rfl dL_law_1036 ?_
  refine cr_iload_n h (j := 3) rfl rfl dL_law_1037 ?_
  refine cr_iconst h (v := (1 : Int32)) (by decide) dL_law_1038 ?_
  refine cr_iadd h dL_law_1039 ?_
  refine lw_ld h hX hL (i + 1) (nI_add i 1) (by omega) dL_law_1040 ?_
  refine cr_aload_n h (j := 0) rfl rfl dL_law_1041 ?_
  refine cr_iload_n h (j := 3) rfl rfl dL_law_1042 ?_
  refine cr_iconst h (v := (2 : Int32)) (by decide) dL_law_1043 ?_
  refine cr_iadd h dL_law_1044 ?_
  refine lw_ld h hX hL (i + 2) (nI_add i 2) (by omega) dL_law_1045 ?_
  refine cr_aload_n h (j := 0) rfl rfl dL_law_1046 ?_
  refine cr_iload_n h (j := 3) rfl rfl dL_law_1047 ?_
  refine cr_iconst h (v := (3 : Int32)) (by decide) dL_law_1048 ?_
  refine cr_iadd h dL_law_1049 ?_
  refine lw_ld h hX hL (i + 3) (nI_add i 3) (by omega) dL_law_1050 ?_
  refine cr_callV h (c0 := 9) (T0 := TX9) (b := 200) C_yX9_spared cZ_yX9_spared wm_L_129 wv_yX9_spared we_yX9_spared (by decide) rfl rfl (lw_rmS (by decide) (by decide)) (As := [.int (xs (i + 1)), .int (xs (i + 2)), .int (xs (i + 3))]) rfl (Nat.le_of_ble_eq_true rfl) dL_law_1051 (h9 _ fun I2 rel2 => ?_)
  show cr_V Γ 1054 [.ref 1300, .ref 0, .ref 200, .int (nI i)] [.int r, .int r] I2 (cr_rf τ1) 247
  exact cr_icmp_eq h (tgt := 1303) (by decide) dL_law_1054 (fun _ => next _ _ rel2) (fun c => absurd rfl c)
theorem lc_27 {nm : String} {K : cr_K} {Γ : cr_G} (h : lw_Ok nm K Γ) {L : Nat} {xs : Nat → Int32} (hX : lw_X L xs Γ) (hL : L ≤ 3072) {i : Nat} (hi : i + 6 ≤ L) {τ : Nat → Nat} {I : cr_I} (rel : cr_Rel τ I) (next : ∀ (τ' : Nat → Nat) (I' : cr_I), cr_Rel τ' I' → cr_V Γ 1303 [.ref 1300, .ref 0, .ref 200, .int (nI i)] [] I' (cr_rf τ') 247) : cr_V Γ 1059 [.ref 1300, .ref 0, .ref 200, .int (nI i)] [] I (cr_rf τ) 247 := by
  refine cr_aload_n h (j := 1) rfl rfl dL_law_1059 ?_
  refine cr_aload_n h (j := 0) rfl rfl dL_law_1060 ?_
  refine cr_iload_n h (j := 3) rfl rfl dL_law_1061 ?_
  refine cr_iconst h (v := (1 : Int32)) (by decide) dL_law_1062 ?_
  refine cr_iadd h dL_law_1063 ?_
  refine lw_ld h hX hL (i + 1) (nI_add i 1) (by omega) dL_law_1064 ?_
  refine cr_callV h (c0 := 8) (T0 := TX8) (b := 0) C_yX8_together cZ_yX8_together wm_L_130 wv_yX8_together we_yX8_together (by decide) rfl rfl (lw_rmS (by decide) (by decide)) (As := [.int (xs (i + 1))]) rfl (Nat.le_of_ble_eq_true rfl) dL_law_1065 (S_together τ I _ rel fun r I1 τ1 h9 => ?_)
  show cr_V Γ 1068 [.ref 1300, .ref 0, .ref 200, .int (nI i)] [.int r] I1 (cr_rf τ1) 247
  refine cr_aload_n h (j := 2) rfl rfl dL_law_1068 ?_
  refine cr_aload_n h (j := 0) rfl rfl dL_law_1069 ?_
  refine cr_iload_n h (j := 3) rfl rfl dL_law_1070 ?_
  refine cr_iconst h (v := (1 : Int32)) (by decide) dL_law_1071 ?_
  refine cr_iadd h dL_law_1072 ?_
  refine lw_ld h hX hL (i + 1) (nI_add i 1) (by omega) dL_law_1073 ?_
  refine cr_callV h (c0 := 9) (T0 := TX9) (b := 200) C_yX9_together cZ_yX9_together wm_L_133 wv_yX9_together we_yX9_together (by decide) rfl rfl (lw_rmS (by decide) (by decide)) (As := [.int (xs (i + 1))]) rfl (Nat.le_of_ble_eq_true rfl) dL_law_1074 (h9 _ fun I2 rel2 => ?_)
  show cr_V Γ 1077 [.ref 1300, .ref 0, .ref 200, .int (nI i)] [.int r, .int r] I2 (cr_rf τ1) 247
  exact cr_icmp_eq h (tgt := 1303) (by decide) dL_law_1077 (fun _ => next _ _ rel2) (fun c => absurd rfl c)
theorem lc_28 {nm : String} {K : cr_K} {Γ : cr_G} (h : lw_Ok nm K Γ) {L : Nat} {xs : Nat → Int32} (hX : lw_X L xs Γ) (hL : L ≤ 3072) {i : Nat} (hi : i + 6 ≤ L) {τ : Nat → Nat} {I : cr_I} (rel : cr_Rel τ I) (next : ∀ (τ' : Nat → Nat) (I' : cr_I), cr_Rel τ' I' → cr_V Γ 1303 [.ref 1300, .ref 0, .ref 200, .int (nI i)] [] I' (cr_rf τ') 247) : cr_V Γ 1082 [.ref 1300, .ref 0, .ref 200, .int (nI i)] [] I (cr_rf τ) 247 := by
  refine cr_aload_n h (j := 1) rfl rfl dL_law_1082 ?_
  refine cr_aload_n h (j := 0) rfl rfl dL_law_1083 ?_
  refine cr_iload_n h (j := 3) rfl rfl dL_law_1084 ?_
  refine cr_iconst h (v := (1 : Int32)) (by decide) dL_law_1085 ?_
  refine cr_iadd h dL_law_1086 ?_
  refine lw_ld h hX hL (i + 1) (nI_add i 1) (by omega) dL_law_1087 ?_
  refine cr_aload_n h (j := 0) rfl rfl dL_law_1088 ?_
  refine cr_iload_n h (j := 3) rfl rfl dL_law_1089 ?_
  refine cr_iconst h (v := (2 : Int32)) (by decide) dL_law_1090 ?_
  refine cr_iadd h dL_law_1091 ?_
  refine lw_ld h hX hL (i + 2) (nI_add i 2) (by omega) dL_law_1092 ?_
  refine cr_aload_n h (j := 0) rfl rfl dL_law_1093 ?_
  refine cr_iload_n h (j := 3) rfl rfl dL_law_1094 ?_
  refine cr_iconst h (v := (3 : Int32)) (by decide) dL_law_1095 ?_
  refine cr_iadd h dL_law_1096 ?_
  refine lw_ld h hX hL (i + 3) (nI_add i 3) (by omega) dL_law_1097 ?_
  refine cr_callV h (c0 := 8) (T0 := TX8) (b := 0) C_yX8_share cZ_yX8_share wm_L_134 wv_yX8_share we_yX8_share (by decide) rfl rfl (lw_rmS (by decide) (by decide)) (As := [.int (xs (i + 1)), .int (xs (i + 2)), .int (xs (i + 3))]) rfl (Nat.le_of_ble_eq_true rfl) dL_law_1098 (S_share τ I _ rel fun r I1 τ1 h9 => ?_)
  show cr_V Γ 1101 [.ref 1300, .ref 0, .ref 200, .int (nI i)] [.int r] I1 (cr_rf τ1) 247
  refine cr_aload_n h (j := 2) rfl rfl dL_law_1101 ?_
  refine cr_aload_n h (j := 0) rfl rfl dL_law_1102 ?_
  refine cr_iload_n h (j := 3) rfl rfl dL_law_1103 ?_
  refine cr_iconst h (v := (1 : Int32)) (by decide) dL_law_1104 ?_
  refine cr_iadd h dL_law_1105 ?_
  refine lw_ld h hX hL (i + 1) (nI_add i 1) (by omega) dL_law_1106 ?_
  refine cr_aload_n h (j := 0) rfl rfl dL_law_1107 ?_
  refine cr_iload_n h (j := 3) rfl rfl dL_law_1108 ?_
  refine cr_iconst h (v := (2 : Int32)) (by decide) dL_law_1109 ?_
  refine cr_iadd h dL_law_1110 ?_
  refine lw_ld h hX hL (i + 2) (nI_add i 2) (by omega) dL_law_1111 ?_
  refine cr_aload_n h (j := 0) rfl rfl dL_law_1112 ?_
  refine cr_iload_n h (j := 3) rfl rfl dL_law_1113 ?_
  refine cr_iconst h (v := (3 : Int32)) (by decide) dL_law_1114 ?_
  refine cr_iadd h dL_law_1115 ?_
  refine lw_ld h hX hL (i + 3) (nI_add i 3) (by omega) dL_law_1116 ?_
  refine cr_callV h (c0 := 9) (T0 := TX9) (b := 200) C_yX9_share cZ_yX9_share wm_L_137 wv_yX9_share we_yX9_share (by decide) rfl rfl (lw_rmS (by decide) (by decide)) (As := [.int (xs (i + 1)), .int (xs (i + 2)), .int (xs (i + 3))]) rfl (Nat.le_of_ble_eq_true rfl) dL_law_1117 (h9 _ fun I2 rel2 => ?_)
  show cr_V Γ 1120 [.ref 1300, .ref 0, .ref 200, .int (nI i)] [.int r, .int r] I2 (cr_rf τ1) 247
  exact cr_icmp_eq h (tgt := 1303) (by decide) dL_law_1120 (fun _ => next _ _ rel2) (fun c => absurd rfl c)
theorem lc_29 {nm : String} {K : cr_K} {Γ : cr_G} (h : lw_Ok nm K Γ) {L : Nat} {xs : Nat → Int32} (hX : lw_X L xs Γ) (hL : L ≤ 3072) {i : Nat} (hi : i + 6 ≤ L) {τ : Nat → Nat} {I : cr_I} (rel : cr_Rel τ I) (next : ∀ (τ' : Nat → Nat) (I' : cr_I), cr_Rel τ' I' → cr_V Γ 1303 [.ref 1300, .ref 0, .ref 200, .int (nI i)] [] I' (cr_rf τ') 247) : cr_V Γ 1125 [.ref 1300, .ref 0, .ref 200, .int (nI i)] [] I (cr_rf τ) 247 := by
  refine cr_aload_n h (j := 1) rfl rfl dL_law_1125 ?_
  refine cr_aload_n h (j := 0) rfl rfl dL_law_1126 ?_
  refine cr_iload_n h (j := 3) rfl rfl dL_law_1127 ?_
  refine cr_iconst h (v := (1 : Int32)) (by decide) dL_law_1128 ?_
  refine cr_iadd h dL_law_1129 ?_
  refine lw_ld h hX hL (i + 1) (nI_add i 1) (by omega) dL_law_1130 ?_
  refine cr_aload_n h (j := 0) rfl rfl dL_law_1131 ?_
  refine cr_iload_n h (j := 3) rfl rfl dL_law_1132 ?_
  refine cr_iconst h (v := (2 : Int32)) (by decide) dL_law_1133 ?_
  refine cr_iadd h dL_law_1134 ?_
  refine lw_ld h hX hL (i + 2) (nI_add i 2) (by omega) dL_law_1135 ?_
  refine cr_callV h (c0 := 8) (T0 := TX8) (b := 0) C_yX8_clock cZ_yX8_clock wm_L_138 wv_yX8_clock we_yX8_clock (by decide) rfl rfl (lw_rmS (by decide) (by decide)) (As := [.int (xs (i + 1)), .int (xs (i + 2))]) rfl (Nat.le_of_ble_eq_true rfl) dL_law_1136 (S_clock τ I _ rel fun r I1 τ1 h9 => ?_)
  show cr_V Γ 1139 [.ref 1300, .ref 0, .ref 200, .int (nI i)] [.int r] I1 (cr_rf τ1) 247
  refine cr_aload_n h (j := 2) rfl rfl dL_law_1139 ?_
  refine cr_aload_n h (j := 0) rfl rfl dL_law_1140 ?_
  refine cr_iload_n h (j := 3) rfl rfl dL_law_1141 ?_
  refine cr_iconst h (v := (1 : Int32)) (by decide) dL_law_1142 ?_
  refine cr_iadd h dL_law_1143 ?_
  refine lw_ld h hX hL (i + 1) (nI_add i 1) (by omega) dL_law_1144 ?_
  refine cr_aload_n h (j := 0) rfl rfl dL_law_1145 ?_
  refine cr_iload_n h (j := 3) rfl rfl dL_law_1146 ?_
  refine cr_iconst h (v := (2 : Int32)) (by decide) dL_law_1147 ?_
  refine cr_iadd h dL_law_1148 ?_
  refine lw_ld h hX hL (i + 2) (nI_add i 2) (by omega) dL_law_1149 ?_
  refine cr_callV h (c0 := 9) (T0 := TX9) (b := 200) C_yX9_clock cZ_yX9_clock wm_L_141 wv_yX9_clock we_yX9_clock (by decide) rfl rfl (lw_rmS (by decide) (by decide)) (As := [.int (xs (i + 1)), .int (xs (i + 2))]) rfl (Nat.le_of_ble_eq_true rfl) dL_law_1150 (h9 _ fun I2 rel2 => ?_)
  show cr_V Γ 1153 [.ref 1300, .ref 0, .ref 200, .int (nI i)] [.int r, .int r] I2 (cr_rf τ1) 247
  exact cr_icmp_eq h (tgt := 1303) (by decide) dL_law_1153 (fun _ => next _ _ rel2) (fun c => absurd rfl c)
theorem lc_30 {nm : String} {K : cr_K} {Γ : cr_G} (h : lw_Ok nm K Γ) {L : Nat} {xs : Nat → Int32} (hX : lw_X L xs Γ) (hL : L ≤ 3072) {i : Nat} (hi : i + 6 ≤ L) {τ : Nat → Nat} {I : cr_I} (rel : cr_Rel τ I) (next : ∀ (τ' : Nat → Nat) (I' : cr_I), cr_Rel τ' I' → cr_V Γ 1303 [.ref 1300, .ref 0, .ref 200, .int (nI i)] [] I' (cr_rf τ') 247) : cr_V Γ 1158 [.ref 1300, .ref 0, .ref 200, .int (nI i)] [] I (cr_rf τ) 247 := by
  refine cr_aload_n h (j := 1) rfl rfl dL_law_1158 ?_
  refine cr_aload_n h (j := 0) rfl rfl dL_law_1159 ?_
  refine cr_iload_n h (j := 3) rfl rfl dL_law_1160 ?_
  refine cr_iconst h (v := (1 : Int32)) (by decide) dL_law_1161 ?_
  refine cr_iadd h dL_law_1162 ?_
  refine lw_ld h hX hL (i + 1) (nI_add i 1) (by omega) dL_law_1163 ?_
  refine cr_aload_n h (j := 0) rfl rfl dL_law_1164 ?_
  refine cr_iload_n h (j := 3) rfl rfl dL_law_1165 ?_
  refine cr_iconst h (v := (2 : Int32)) (by decide) dL_law_1166 ?_
  refine cr_iadd h dL_law_1167 ?_
  refine lw_ld h hX hL (i + 2) (nI_add i 2) (by omega) dL_law_1168 ?_
  refine cr_callV h (c0 := 8) (T0 := TX8) (b := 0) C_yX8_event cZ_yX8_event wm_L_142 wv_yX8_event we_yX8_event (by decide) rfl rfl (lw_rmS (by decide) (by decide)) (As := [.int (xs (i + 1)), .int (xs (i + 2))]) rfl (Nat.le_of_ble_eq_true rfl) dL_law_1169 (S_event τ I _ rel fun r I1 τ1 h9 => ?_)
  show cr_V Γ 1172 [.ref 1300, .ref 0, .ref 200, .int (nI i)] [.int r] I1 (cr_rf τ1) 247
  refine cr_aload_n h (j := 2) rfl rfl dL_law_1172 ?_
  refine cr_aload_n h (j := 0) rfl rfl dL_law_1173 ?_
  refine cr_iload_n h (j := 3) rfl rfl dL_law_1174 ?_
  refine cr_iconst h (v := (1 : Int32)) (by decide) dL_law_1175 ?_
  refine cr_iadd h dL_law_1176 ?_
  refine lw_ld h hX hL (i + 1) (nI_add i 1) (by omega) dL_law_1177 ?_
  refine cr_aload_n h (j := 0) rfl rfl dL_law_1178 ?_
  refine cr_iload_n h (j := 3) rfl rfl dL_law_1179 ?_
  refine cr_iconst h (v := (2 : Int32)) (by decide) dL_law_1180 ?_
  refine cr_iadd h dL_law_1181 ?_
  refine lw_ld h hX hL (i + 2) (nI_add i 2) (by omega) dL_law_1182 ?_
  refine cr_callV h (c0 := 9) (T0 := TX9) (b := 200) C_yX9_event cZ_yX9_event wm_L_145 wv_yX9_event we_yX9_event (by decide) rfl rfl (lw_rmS (by decide) (by decide)) (As := [.int (xs (i + 1)), .int (xs (i + 2))]) rfl (Nat.le_of_ble_eq_true rfl) dL_law_1183 (h9 _ fun I2 rel2 => ?_)
  show cr_V Γ 1186 [.ref 1300, .ref 0, .ref 200, .int (nI i)] [.int r, .int r] I2 (cr_rf τ1) 247
  exact cr_icmp_eq h (tgt := 1303) (by decide) dL_law_1186 (fun _ => next _ _ rel2) (fun c => absurd rfl c)
theorem lc_31 {nm : String} {K : cr_K} {Γ : cr_G} (h : lw_Ok nm K Γ) {L : Nat} {xs : Nat → Int32} (hX : lw_X L xs Γ) (hL : L ≤ 3072) {i : Nat} (hi : i + 6 ≤ L) {τ : Nat → Nat} {I : cr_I} (rel : cr_Rel τ I) (next : ∀ (τ' : Nat → Nat) (I' : cr_I), cr_Rel τ' I' → cr_V Γ 1303 [.ref 1300, .ref 0, .ref 200, .int (nI i)] [] I' (cr_rf τ') 247) : cr_V Γ 1191 [.ref 1300, .ref 0, .ref 200, .int (nI i)] [] I (cr_rf τ) 247 := by
  refine cr_aload_n h (j := 1) rfl rfl dL_law_1191 ?_
  refine cr_aload_n h (j := 0) rfl rfl dL_law_1192 ?_
  refine cr_iload_n h (j := 3) rfl rfl dL_law_1193 ?_
  refine cr_iconst h (v := (1 : Int32)) (by decide) dL_law_1194 ?_
  refine cr_iadd h dL_law_1195 ?_
  refine lw_ld h hX hL (i + 1) (nI_add i 1) (by omega) dL_law_1196 ?_
  refine cr_aload_n h (j := 0) rfl rfl dL_law_1197 ?_
  refine cr_iload_n h (j := 3) rfl rfl dL_law_1198 ?_
  refine cr_iconst h (v := (2 : Int32)) (by decide) dL_law_1199 ?_
  refine cr_iadd h dL_law_1200 ?_
  refine lw_ld h hX hL (i + 2) (nI_add i 2) (by omega) dL_law_1201 ?_
  refine cr_aload_n h (j := 0) rfl rfl dL_law_1202 ?_
  refine cr_iload_n h (j := 3) rfl rfl dL_law_1203 ?_
  refine cr_iconst h (v := (3 : Int32)) (by decide) dL_law_1204 ?_
  refine cr_iadd h dL_law_1205 ?_
  refine lw_ld h hX hL (i + 3) (nI_add i 3) (by omega) dL_law_1206 ?_
  refine cr_callV h (c0 := 8) (T0 := TX8) (b := 0) C_yX8_after cZ_yX8_after wm_L_146 wv_yX8_after we_yX8_after (by decide) rfl rfl (lw_rmS (by decide) (by decide)) (As := [.int (xs (i + 1)), .int (xs (i + 2)), .int (xs (i + 3))]) rfl (Nat.le_of_ble_eq_true rfl) dL_law_1207 (S_after τ I _ rel fun r I1 τ1 h9 => ?_)
  show cr_V Γ 1210 [.ref 1300, .ref 0, .ref 200, .int (nI i)] [.int r] I1 (cr_rf τ1) 247
  refine cr_aload_n h (j := 2) rfl rfl dL_law_1210 ?_
  refine cr_aload_n h (j := 0) rfl rfl dL_law_1211 ?_
  refine cr_iload_n h (j := 3) rfl rfl dL_law_1212 ?_
  refine cr_iconst h (v := (1 : Int32)) (by decide) dL_law_1213 ?_
  refine cr_iadd h dL_law_1214 ?_
  refine lw_ld h hX hL (i + 1) (nI_add i 1) (by omega) dL_law_1215 ?_
  refine cr_aload_n h (j := 0) rfl rfl dL_law_1216 ?_
  refine cr_iload_n h (j := 3) rfl rfl dL_law_1217 ?_
  refine cr_iconst h (v := (2 : Int32)) (by decide) dL_law_1218 ?_
  refine cr_iadd h dL_law_1219 ?_
  refine lw_ld h hX hL (i + 2) (nI_add i 2) (by omega) dL_law_1220 ?_
  refine cr_aload_n h (j := 0) rfl rfl dL_law_1221 ?_
  refine cr_iload_n h (j := 3) rfl rfl dL_law_1222 ?_
  refine cr_iconst h (v := (3 : Int32)) (by decide) dL_law_1223 ?_
  refine cr_iadd h dL_law_1224 ?_
  refine lw_ld h hX hL (i + 3) (nI_add i 3) (by omega) dL_law_1225 ?_
  refine cr_callV h (c0 := 9) (T0 := TX9) (b := 200) C_yX9_after cZ_yX9_after wm_L_149 wv_yX9_after we_yX9_after (by decide) rfl rfl (lw_rmS (by decide) (by decide)) (As := [.int (xs (i + 1)), .int (xs (i + 2)), .int (xs (i + 3))]) rfl (Nat.le_of_ble_eq_true rfl) dL_law_1226 (h9 _ fun I2 rel2 => ?_)
  show cr_V Γ 1229 [.ref 1300, .ref 0, .ref 200, .int (nI i)] [.int r, .int r] I2 (cr_rf τ1) 247
  exact cr_icmp_eq h (tgt := 1303) (by decide) dL_law_1229 (fun _ => next _ _ rel2) (fun c => absurd rfl c)
theorem lc_32 {nm : String} {K : cr_K} {Γ : cr_G} (h : lw_Ok nm K Γ) {L : Nat} {xs : Nat → Int32} (hX : lw_X L xs Γ) (hL : L ≤ 3072) {i : Nat} (hi : i + 6 ≤ L) {τ : Nat → Nat} {I : cr_I} (rel : cr_Rel τ I) (next : ∀ (τ' : Nat → Nat) (I' : cr_I), cr_Rel τ' I' → cr_V Γ 1303 [.ref 1300, .ref 0, .ref 200, .int (nI i)] [] I' (cr_rf τ') 247) : cr_V Γ 1234 [.ref 1300, .ref 0, .ref 200, .int (nI i)] [] I (cr_rf τ) 247 := by
  refine cr_aload_n h (j := 1) rfl rfl dL_law_1234 ?_
  refine cr_callV h (c0 := 8) (T0 := TX8) (b := 0) C_yX8_agree cZ_yX8_agree wm_L_150 wv_yX8_agree we_yX8_agree (by decide) rfl rfl (lw_rmS (by decide) (by decide)) (As := []) rfl (Nat.le_of_ble_eq_true rfl) dL_law_1235 (S_agree τ I _ rel fun r I1 τ1 h9 => ?_)
  show cr_V Γ 1238 [.ref 1300, .ref 0, .ref 200, .int (nI i)] [.int r] I1 (cr_rf τ1) 247
  refine cr_aload_n h (j := 2) rfl rfl dL_law_1238 ?_
  refine cr_callV h (c0 := 9) (T0 := TX9) (b := 200) C_yX9_agree cZ_yX9_agree wm_L_153 wv_yX9_agree we_yX9_agree (by decide) rfl rfl (lw_rmS (by decide) (by decide)) (As := []) rfl (Nat.le_of_ble_eq_true rfl) dL_law_1239 (h9 _ fun I2 rel2 => ?_)
  show cr_V Γ 1242 [.ref 1300, .ref 0, .ref 200, .int (nI i)] [.int r, .int r] I2 (cr_rf τ1) 247
  exact cr_icmp_eq h (tgt := 1303) (by decide) dL_law_1242 (fun _ => next _ _ rel2) (fun c => absurd rfl c)
theorem lc_33 {nm : String} {K : cr_K} {Γ : cr_G} (h : lw_Ok nm K Γ) {L : Nat} {xs : Nat → Int32} (hX : lw_X L xs Γ) (hL : L ≤ 3072) {i : Nat} (hi : i + 6 ≤ L) {τ : Nat → Nat} {I : cr_I} (rel : cr_Rel τ I) (next : ∀ (τ' : Nat → Nat) (I' : cr_I), cr_Rel τ' I' → cr_V Γ 1303 [.ref 1300, .ref 0, .ref 200, .int (nI i)] [] I' (cr_rf τ') 247) : cr_V Γ 1247 [.ref 1300, .ref 0, .ref 200, .int (nI i)] [] I (cr_rf τ) 247 := by
  refine cr_aload_n h (j := 1) rfl rfl dL_law_1247 ?_
  refine cr_aload_n h (j := 0) rfl rfl dL_law_1248 ?_
  refine cr_iload_n h (j := 3) rfl rfl dL_law_1249 ?_
  refine cr_iconst h (v := (1 : Int32)) (by decide) dL_law_1250 ?_
  refine cr_iadd h dL_law_1251 ?_
  refine lw_ld h hX hL (i + 1) (nI_add i 1) (by omega) dL_law_1252 ?_
  refine cr_aload_n h (j := 0) rfl rfl dL_law_1253 ?_
  refine cr_iload_n h (j := 3) rfl rfl dL_law_1254 ?_
  refine cr_iconst h (v := (2 : Int32)) (by decide) dL_law_1255 ?_
  refine cr_iadd h dL_law_1256 ?_
  refine lw_ld h hX hL (i + 2) (nI_add i 2) (by omega) dL_law_1257 ?_
  refine cr_callV h (c0 := 8) (T0 := TX8) (b := 0) C_yX8_span cZ_yX8_span wm_L_154 wv_yX8_span we_yX8_span (by decide) rfl rfl (lw_rmS (by decide) (by decide)) (As := [.int (xs (i + 1)), .int (xs (i + 2))]) rfl (Nat.le_of_ble_eq_true rfl) dL_law_1258 (S_span τ I _ rel fun r I1 τ1 h9 => ?_)
  show cr_V Γ 1261 [.ref 1300, .ref 0, .ref 200, .int (nI i)] [.int r] I1 (cr_rf τ1) 247
  refine cr_aload_n h (j := 2) rfl rfl dL_law_1261 ?_
  refine cr_aload_n h (j := 0) rfl rfl dL_law_1262 ?_
  refine cr_iload_n h (j := 3) rfl rfl dL_law_1263 ?_
  refine cr_iconst h (v := (1 : Int32)) (by decide) dL_law_1264 ?_
  refine cr_iadd h dL_law_1265 ?_
  refine lw_ld h hX hL (i + 1) (nI_add i 1) (by omega) dL_law_1266 ?_
  refine cr_aload_n h (j := 0) rfl rfl dL_law_1267 ?_
  refine cr_iload_n h (j := 3) rfl rfl dL_law_1268 ?_
  refine cr_iconst h (v := (2 : Int32)) (by decide) dL_law_1269 ?_
  refine cr_iadd h dL_law_1270 ?_
  refine lw_ld h hX hL (i + 2) (nI_add i 2) (by omega) dL_law_1271 ?_
  refine cr_callV h (c0 := 9) (T0 := TX9) (b := 200) C_yX9_span cZ_yX9_span wm_L_157 wv_yX9_span we_yX9_span (by decide) rfl rfl (lw_rmS (by decide) (by decide)) (As := [.int (xs (i + 1)), .int (xs (i + 2))]) rfl (Nat.le_of_ble_eq_true rfl) dL_law_1272 (h9 _ fun I2 rel2 => ?_)
  show cr_V Γ 1275 [.ref 1300, .ref 0, .ref 200, .int (nI i)] [.int r, .int r] I2 (cr_rf τ1) 247
  exact cr_icmp_eq h (tgt := 1303) (by decide) dL_law_1275 (fun _ => next _ _ rel2) (fun c => absurd rfl c)
theorem lc_34 {nm : String} {K : cr_K} {Γ : cr_G} (h : lw_Ok nm K Γ) {L : Nat} {xs : Nat → Int32} (hX : lw_X L xs Γ) (hL : L ≤ 3072) {i : Nat} (hi : i + 6 ≤ L) {τ : Nat → Nat} {I : cr_I} (rel : cr_Rel τ I) (next : ∀ (τ' : Nat → Nat) (I' : cr_I), cr_Rel τ' I' → cr_V Γ 1303 [.ref 1300, .ref 0, .ref 200, .int (nI i)] [] I' (cr_rf τ') 247) : cr_V Γ 1280 [.ref 1300, .ref 0, .ref 200, .int (nI i)] [] I (cr_rf τ) 247 := by
  refine cr_aload_n h (j := 1) rfl rfl dL_law_1280 ?_
  refine cr_aload_n h (j := 0) rfl rfl dL_law_1281 ?_
  refine cr_iload_n h (j := 3) rfl rfl dL_law_1282 ?_
  refine cr_iconst h (v := (1 : Int32)) (by decide) dL_law_1283 ?_
  refine cr_iadd h dL_law_1284 ?_
  refine lw_ld h hX hL (i + 1) (nI_add i 1) (by omega) dL_law_1285 ?_
  refine cr_callV h (c0 := 8) (T0 := TX8) (b := 0) C_yX8_count cZ_yX8_count wm_L_158 wv_yX8_count we_yX8_count (by decide) rfl rfl (lw_rmS (by decide) (by decide)) (As := [.int (xs (i + 1))]) rfl (Nat.le_of_ble_eq_true rfl) dL_law_1286 (S_count τ I _ rel fun r I1 τ1 h9 => ?_)
  show cr_V Γ 1289 [.ref 1300, .ref 0, .ref 200, .int (nI i)] [.int r] I1 (cr_rf τ1) 247
  refine cr_aload_n h (j := 2) rfl rfl dL_law_1289 ?_
  refine cr_aload_n h (j := 0) rfl rfl dL_law_1290 ?_
  refine cr_iload_n h (j := 3) rfl rfl dL_law_1291 ?_
  refine cr_iconst h (v := (1 : Int32)) (by decide) dL_law_1292 ?_
  refine cr_iadd h dL_law_1293 ?_
  refine lw_ld h hX hL (i + 1) (nI_add i 1) (by omega) dL_law_1294 ?_
  refine cr_callV h (c0 := 9) (T0 := TX9) (b := 200) C_yX9_count cZ_yX9_count wm_L_161 wv_yX9_count we_yX9_count (by decide) rfl rfl (lw_rmS (by decide) (by decide)) (As := [.int (xs (i + 1))]) rfl (Nat.le_of_ble_eq_true rfl) dL_law_1295 (h9 _ fun I2 rel2 => ?_)
  show cr_V Γ 1298 [.ref 1300, .ref 0, .ref 200, .int (nI i)] [.int r, .int r] I2 (cr_rf τ1) 247
  exact cr_icmp_eq h (tgt := 1303) (by decide) dL_law_1298 (fun _ => next _ _ rel2) (fun c => absurd rfl c)
