/-! THE LAW'S LOOP -/
theorem lw_loop {nm : String} {K : cr_K} {Γ : cr_G} (h : lw_Ok nm K Γ) {L : Nat} {xs : Nat → Int32} (hX : lw_X L xs Γ) (hL : L ≤ 3072) (hK : ∀ I R, K (some (.int 1)) I R) : ∀ (m i : Nat) (τ : Nat → Nat) (I : cr_I), i ≤ 4000 → L < i + 6 * m → cr_Rel τ I → cr_V Γ 18 [.ref 1300, .ref 0, .ref 200, .int (nI i)] [] I (cr_rf τ) 247 := by
  intro m
  induction m with
  | zero =>
    intro i τ I hi hm rel
    refine cr_iload_n h (j := 3) rfl rfl dL_law_18 ?_
    refine cr_aload_n h (j := 0) rfl rfl dL_law_19 ?_
    refine lw_len h hX dL_law_20 ?_
    refine cr_bipush h (v := (6 : Int32)) (by decide) dL_law_21 ?_
    refine cr_isub h dL_law_23 ?_
    have e6 : (nI L - 6).toInt = L - 6 := by
      have z : (6 : Int32).toInt = 6 := rfl
      rw [cr_sub (by rw [cr_nt (by omega), z]; omega), cr_nt (by omega), z]
    refine cr_icmp_gt h (tgt := 1309) (by decide) dL_law_24 (fun c => ?_) (fun c => absurd (by rw [cr_lt, e6, cr_nt (by omega)]; omega) c)
    refine cr_iconst h (v := (1 : Int32)) (by decide) dL_law_1309 ?_
    exact cr_iret h rfl rfl rfl dL_law_1310 (hK _ _)
  | succ m ih =>
    intro i τ I hi hm rel
    refine cr_iload_n h (j := 3) rfl rfl dL_law_18 ?_
    refine cr_aload_n h (j := 0) rfl rfl dL_law_19 ?_
    refine lw_len h hX dL_law_20 ?_
    refine cr_bipush h (v := (6 : Int32)) (by decide) dL_law_21 ?_
    refine cr_isub h dL_law_23 ?_
    have e6 : (nI L - 6).toInt = L - 6 := by
      have z : (6 : Int32).toInt = 6 := rfl
      rw [cr_sub (by rw [cr_nt (by omega), z]; omega), cr_nt (by omega), z]
    refine cr_icmp_gt h (tgt := 1309) (by decide) dL_law_24 (fun c => ?_) (fun c => ?_)
    · refine cr_iconst h (v := (1 : Int32)) (by decide) dL_law_1309 ?_
      exact cr_iret h rfl rfl rfl dL_law_1310 (hK _ _)
    · have h6 : i + 6 ≤ L := by
        rw [cr_lt, e6, cr_nt (by omega)] at c
        omega
      have next : ∀ (τ' : Nat → Nat) (I' : cr_I), cr_Rel τ' I' → cr_V Γ 1303 [.ref 1300, .ref 0, .ref 200, .int (nI i)] [] I' (cr_rf τ') 247 := fun τ' I' rel' => by
        refine cr_iinc h (i := 6) (v := nI (i + 6)) (x := nI i) rfl (show nI i + Int32.ofInt 6 = nI (i + 6) from nI_add i 6) (by decide) rfl dL_law_1303 ?_
        refine cr_goto h (tgt := 18) (by decide) dL_law_1306 ?_
        exact ih (i + 6) τ' I' (by omega) (by omega) rel'
      refine cr_aload_n h (j := 0) rfl rfl dL_law_27 ?_
      refine cr_iload_n h (j := 3) rfl rfl dL_law_28 ?_
      refine lw_ld h hX hL i rfl (by omega) dL_law_29 ?_
      refine cr_bipush h (v := (63 : Int32)) (by decide) dL_law_30 ?_
      refine cr_iand h dL_law_32 ?_
      refine cs_sw h [188, 251, 314, 327, 340, 363, 396, 429, 462, 475, 498, 551, 604, 647, 670, 693, 716, 729, 772, 805, 848, 861, 894, 957, 970, 993, 1016, 1059, 1082, 1125, 1158, 1191, 1234, 1247, 1280] (by decide) (by decide) (dt := 1303) (by decide) (by decide) dL_law_33 (fun _ => next _ _ rel) (fun j hj e => ?_)
      match j, hj with
      | 0, _ => exact lc_0 h hX hL h6 rel next
      | 1, _ => exact lc_1 h hX hL h6 rel next
      | 2, _ => exact lc_2 h hX hL h6 rel next
      | 3, _ => exact lc_3 h hX hL h6 rel next
      | 4, _ => exact lc_4 h hX hL h6 rel next
      | 5, _ => exact lc_5 h hX hL h6 rel next
      | 6, _ => exact lc_6 h hX hL h6 rel next
      | 7, _ => exact lc_7 h hX hL h6 rel next
      | 8, _ => exact lc_8 h hX hL h6 rel next
      | 9, _ => exact lc_9 h hX hL h6 rel next
      | 10, _ => exact lc_10 h hX hL h6 rel next
      | 11, _ => exact lc_11 h hX hL h6 rel next
      | 12, _ => exact lc_12 h hX hL h6 rel next
      | 13, _ => exact lc_13 h hX hL h6 rel next
      | 14, _ => exact lc_14 h hX hL h6 rel next
      | 15, _ => exact lc_15 h hX hL h6 rel next
      | 16, _ => exact lc_16 h hX hL h6 rel next
      | 17, _ => exact lc_17 h hX hL h6 rel next
      | 18, _ => exact lc_18 h hX hL h6 rel next
      | 19, _ => exact lc_19 h hX hL h6 rel next
      | 20, _ => exact lc_20 h hX hL h6 rel next
      | 21, _ => exact lc_21 h hX hL h6 rel next
      | 22, _ => exact lc_22 h hX hL h6 rel next
      | 23, _ => exact lc_23 h hX hL h6 rel next
      | 24, _ => exact lc_24 h hX hL h6 rel next
      | 25, _ => exact lc_25 h hX hL h6 rel next
      | 26, _ => exact lc_26 h hX hL h6 rel next
      | 27, _ => exact lc_27 h hX hL h6 rel next
      | 28, _ => exact lc_28 h hX hL h6 rel next
      | 29, _ => exact lc_29 h hX hL h6 rel next
      | 30, _ => exact lc_30 h hX hL h6 rel next
      | 31, _ => exact lc_31 h hX hL h6 rel next
      | 32, _ => exact lc_32 h hX hL h6 rel next
      | 33, _ => exact lc_33 h hX hL h6 rel next
      | 34, _ => exact lc_34 h hX hL h6 rel next
      | j + 35, hj => exact absurd hj (by simp)
/-! the law from its entry -/
theorem lw_body {nm : String} {K : cr_K} {Γ : cr_G} (h : lw_Ok nm K Γ) {L : Nat} {xs : Nat → Int32} (hX : lw_X L xs Γ) (hL : L ≤ 3072) (hK : ∀ I R, K (some (.int 1)) I R) : cr_V Γ 0 [.ref 1300, .null, .null, .null] [] (fun _ _ => 0) cr_R0 0 := by
  refine cr_new h cr_clsX8 wl_L_7 wN_X8 wI_X8 rfl (fun _ _ => rfl) (fun k _ => cr_R0_nil (by decide +kernel)) cr_tf8 ⟨⟨by decide, by decide, by decide, by decide⟩, rfl, rfl⟩ dL_law_0 ?_
  show cr_V Γ 3 [.ref 1300, .null, .null, .null] [.ref 0] (fun _ _ => 0) cr_R0 1
  refine cr_dup h rfl dL_law_3 ?_
  refine cr_callI h C_yX8_init_0 cZ_yX8_init rfl rfl wm_L_9 wv_yX8_init ⟨⟨by decide, by decide⟩, ⟨rfl, rfl⟩, ⟨by decide, by decide, by decide⟩, rfl, rfl⟩ (As := []) (b := 0) rfl (Nat.le_of_ble_eq_true rfl) dL_law_4 ⟨rfl, ⟨fun _ _ _ => rfl, fun _ _ _ => rfl⟩, ?_⟩
  show cr_V Γ 7 [.ref 1300, .null, .null, .null] [.ref 0] (cr_mix (fun _ _ => 0) 0 200 cr_I0) (cr_mix cr_R0 0 200 cr_RF) 200
  refine cr_astore_n h (j := 1) rfl (by decide) rfl dL_law_7 ?_
  show cr_V Γ 8 [.ref 1300, .ref 0, .null, .null] [] (cr_mix (fun _ _ => 0) 0 200 cr_I0) (cr_mix cr_R0 0 200 cr_RF) 200
  have z : cr_Z0 200 (cr_mix (fun _ _ => 0) 0 200 cr_I0) (cr_mix cr_R0 0 200 cr_RF) := ⟨fun b hb k => if_neg (by omega), fun b hb k => if_neg (by omega)⟩
  refine cr_new h cr_clsX9 wl_L_10 wN_X9 wI_X9 rfl (fun k _ => z.1 200 (Nat.le_refl _) k) (fun k _ => z.no (by decide +kernel) k) cr_tf9 ⟨⟨by decide, by decide, by decide, by decide⟩, rfl, rfl⟩ dL_law_8 ?_
  show cr_V Γ 11 [.ref 1300, .ref 0, .null, .null] [.ref 200] (cr_mix (fun _ _ => 0) 0 200 cr_I0) (cr_mix cr_R0 0 200 cr_RF) 201
  refine cr_dup h rfl dL_law_11 ?_
  refine cr_callI h C_yX9_init_200 cZ_yX9_init rfl rfl wm_L_12 wv_yX9_init ⟨⟨by decide, by decide⟩, ⟨rfl, rfl⟩, ⟨by decide, by decide, by decide⟩, rfl, rfl⟩ (As := []) (b := 200) rfl (Nat.le_of_ble_eq_true rfl) dL_law_12 ⟨rfl, z, ?_⟩
  rw [cr_I0_all, cr_R0_all]
  show cr_V Γ 15 [.ref 1300, .ref 0, .null, .null] [.ref 200] cr_I0 (cr_rf cr_tau0) 247
  refine cr_astore_n h (j := 2) rfl (by decide) rfl dL_law_15 ?_
  show cr_V Γ 16 [.ref 1300, .ref 0, .ref 200, .null] [] cr_I0 (cr_rf cr_tau0) 247
  refine cr_iconst h (v := (0 : Int32)) (by decide) dL_law_16 ?_
  refine cr_istore_n h (j := 3) rfl (by decide) rfl dL_law_17 ?_
  show cr_V Γ 18 [.ref 1300, .ref 0, .ref 200, .int (nI 0)] [] cr_I0 (cr_rf cr_tau0) 247
  exact lw_loop h hX hL hK (L + 1) 0 cr_tau0 cr_I0 (by omega) (by omega) cr_Rel0
