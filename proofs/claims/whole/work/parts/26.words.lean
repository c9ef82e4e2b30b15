/-! words and numbers of the class's text -/
def f_yX7_number (τ : Nat → Nat) (I : cr_I) : Int32 := cr_num (I 2) (cr_tt I)
def p_yX7_number (τ : Nat → Nat) (I : cr_I) : Prop := cr_tkok I
theorem cr_tkok.un {I : cr_I} (h : cr_tkok I) : (I 1 1 = nI (cr_tL I) ∧ cr_tL I ≤ 160) ∧ (I 1 3 = nI (cr_tt I).1 ∧ I 1 4 = nI (cr_tt I).2) ∧ cr_tok (cr_tL I) (cr_tt I) := by
  obtain ⟨hL, ⟨h3, h34⟩, h4⟩ := h
  obtain ⟨eL, hLN⟩ := cr_ofI (B := 160) hL.1 hL.2
  obtain ⟨e3, -⟩ := cr_ofI (B := 160) h3 (by unfold cr_Lok at hL; omega)
  obtain ⟨e4, -⟩ := cr_ofI (B := 160) (x := I 1 4) (by omega) (by unfold cr_Lok at hL; omega)
  refine ⟨⟨eL, hLN⟩, ⟨e3, e4⟩, ?_, ?_⟩
  · show (I 1 3).toInt.toNat ≤ (I 1 4).toInt.toNat; omega
  · show (I 1 4).toInt.toNat ≤ (I 1 1).toInt.toNat; omega
theorem bk_yX7_number_0 {Γ : cr_G} {K : cr_K} {τ : Nat → Nat} {I : cr_I}  (hτ : cr_tau τ)  (h : cr_Ok yX7_number cX7_number 3 (some .int) (cr_rm0 0 0) K 247 247 Γ) (hyp : ∀ v1 : Int32, v1 = (I 1 3) → cr_V Γ 7 [.ref 1, .int (0 : Int32), .int v1] [] I (cr_rf τ) 247) : cr_V Γ 0 [.ref 1, .null, .null] [] I (cr_rf τ) 247 := by
  refine cr_iconst h (v := (0 : Int32)) (by decide) dX7_number_0 ?_
  refine cr_istore_n h (j := 1) rfl (by decide) rfl dX7_number_1 ?_
  show cr_V Γ 2 [.ref 1, .int (0 : Int32), .null] [] I (cr_rf τ) 247
  refine cr_aload_n h (j := 0) rfl rfl dX7_number_2 ?_
  refine cr_getI h (k := 3) cr_clsX7 (by decide) rfl rfl wf_X7_26 (by decide) rfl dX7_number_3 ?_
  refine cs_i_n h 2 rfl (by decide) rfl dX7_number_6 (fun v1 ev1 => ?_)
  have hyp := hyp v1 ev1
  show cr_V Γ 7 [.ref 1, .int (0 : Int32), .int v1] [] I (cr_rf τ) 247
  exact cr_weak [true, true, true] hyp
theorem bk_yX7_number_7 {Γ : cr_G} {K : cr_K} {τ : Nat → Nat} {I : cr_I} {x1 : Int32} {x2 : Int32} (hτ : cr_tau τ)  (h : cr_Ok yX7_number cX7_number 3 (some .int) (cr_rm0 0 0) K 247 247 Γ) (hyp : ((I 1 4) ≤ x2 → K (some (.int x1)) I (cr_rf τ)) ∧ (¬ (I 1 4) ≤ x2 → ((0 ≤ x2.toInt ∧ x2.toInt < 160) ∧ (∀ v2 : Int32, v2 = ((((10 : Int32) * x1) + (I 2 x2.toNatClampNeg)) - (48 : Int32)) → (∀ v3 : Int32, v3 = x2 + (1 : Int32) → cr_V Γ 7 [.ref 1, .int v2, .int v3] [] I (cr_rf τ) 247))))) : cr_V Γ 7 [.ref 1, .int x1, .int x2] [] I (cr_rf τ) 247 := by
  refine cr_iload_n h (j := 2) rfl rfl dX7_number_7 ?_
  refine cr_aload_n h (j := 0) rfl rfl dX7_number_8 ?_
  refine cr_getI h (k := 4) cr_clsX7 (by decide) rfl rfl wf_X7_29 (by decide) rfl dX7_number_9 ?_
  refine cr_icmp_ge h (tgt := 36) (by decide) dX7_number_12 (fun c1 => ?_) (fun c1 => ?_)
  · have hyp := hyp.1 c1
    refine cr_iload_n h (j := 1) rfl rfl dX7_number_36 ?_
    refine cr_iret h rfl rfl rfl dX7_number_37 ?_
    exact hyp
  · have hyp := hyp.2 c1
    refine cr_bipush h (v := (10 : Int32)) (by decide) dX7_number_15 ?_
    refine cr_iload_n h (j := 1) rfl rfl dX7_number_17 ?_
    refine cr_imul h dX7_number_18 ?_
    refine cr_aload_n h (j := 0) rfl rfl dX7_number_19 ?_
    refine cr_getR h (k := 0) cr_clsX7 (by decide) rfl rfl wf_X7_9 (by decide) rfl rfl dX7_number_20 ?_
    refine cr_iload_n h (j := 2) rfl rfl dX7_number_23 ?_
    refine cs_ild h (by decide) rfl hyp.1 (q := x2.toNatClampNeg) rfl dX7_number_24 ?_
    have hyp := hyp.2
    refine cr_iadd h dX7_number_25 ?_
    refine cr_bipush h (v := (48 : Int32)) (by decide) dX7_number_26 ?_
    refine cr_isub h dX7_number_28 ?_
    refine cs_i_n h 1 rfl (by decide) rfl dX7_number_29 (fun v2 ev2 => ?_)
    have hyp := hyp v2 ev2
    show cr_V Γ 30 [.ref 1, .int v2, .int x2] [] I (cr_rf τ) 247
    refine cs_inc h (v := (1 : Int32)) 2 rfl (by decide) (by decide) rfl dX7_number_30 (fun v3 ev3 => ?_)
    have hyp := hyp v3 ev3
    show cr_V Γ 33 [.ref 1, .int v2, .int v3] [] I (cr_rf τ) 247
    refine cr_goto h (tgt := 7) (by decide) dX7_number_33 ?_
    exact cr_weak [true, true, true] hyp
abbrev T_yX7_number : cr_T := fun vs I R K => ∃ (τ : Nat → Nat), R = cr_rf τ ∧ cr_tau τ ∧ vs = [.ref 1] ∧ p_yX7_number τ I ∧ K (some (.int (f_yX7_number τ I))) I (cr_rf τ)
abbrev S_yX7_number : Prop := cr_C yX7_number cX7_number 3 (some .int) (cr_rm0 0 0) 247 247 T_yX7_number
theorem G_yX7_number (H : ∀ (Γ : cr_G) (K : cr_K) (τ : Nat → Nat) (I : cr_I), cr_tau τ → cr_Ok yX7_number cX7_number 3 (some .int) (cr_rm0 0 0) K 247 247 Γ → p_yX7_number τ I → K (some (.int (f_yX7_number τ I))) I (cr_rf τ) → cr_V Γ 0 [.ref 1, .null, .null] [] I (cr_rf τ) 247) : cr_C yX7_number cX7_number 3 (some .int) (cr_rm0 0 0) 247 247 T_yX7_number := by
  refine cr_C.of (by decide +kernel) (fun vs I R K hT => ?_) (fun Γ K h vs I R hT => ?_)
  · obtain ⟨τ, rfl, hτ, rfl, hp, hK⟩ := hT
    exact Nat.le_of_ble_eq_true rfl
  · obtain ⟨τ, rfl, hτ, rfl, hp, hK⟩ := hT
    exact H Γ K τ I hτ h hp hK
theorem C_yX7_number : S_yX7_number := G_yX7_number (by
  intro Γ K τ I hτ h hp hK
  obtain ⟨⟨eL, hL⟩, ⟨e3, e4⟩, ht1, ht2⟩ := cr_tkok.un hp
  unfold f_yX7_number cr_num at hK
  generalize cr_tL I = L at *
  generalize cr_tt I = t at *
  refine bk_yX7_number_0 hτ h ?_
  rintro v rfl
  rw [e3]
  refine cr_loop (fun k => cr_V Γ 7 [.ref 1, .int (cr_nmF (I 2) t.1 k), .int (nI (t.1 + k))] [] I (cr_rf τ) 247) (t.2 - t.1) ?_ ?_ 0 (Nat.zero_le _)
  · refine bk_yX7_number_7 hτ h ⟨fun _ => hK, fun c => absurd ?_ c⟩
    rw [e4, cr_nlq (by omega) (by omega)]; omega
  · intro k hk ih
    refine bk_yX7_number_7 hτ h ⟨fun c => absurd c ?_, fun _ => ⟨cr_ix (by omega) (by omega), ?_⟩⟩
    · rw [e4, cr_nlq (by omega) (by omega)]; omega
    · rw [cr_nc (by omega)]
      rintro v rfl u rfl
      rw [nI_1]
      exact ih)
def f_yX7_isWord (τ : Nat → Nat) (w : Nat) (I : cr_I) : Int32 := if cr_isW (I 2) (cr_tt I) w = true then 1 else 0
def p_yX7_isWord (τ : Nat → Nat) (w : Nat) (I : cr_I) : Prop := cr_tkok I
theorem nb_yX7_isWord {τ : Nat → Nat} {w : Nat} {I : cr_I} : narrow .boolean (.int (f_yX7_isWord τ w I)) = .int (f_yX7_isWord τ w I) := by
  unfold f_yX7_isWord
  split <;> rfl
theorem cr_len {τ : Nat → Nat} {w : Nat} {I : cr_I} : f_yJ0_length_8abf5 τ w I = nI (cr_txL.getD w 0) := by
  unfold f_yJ0_length_8abf5 f_yJ0_coder_7d493
  exact Int32.shiftRight_zero
theorem cr_txL_le {w : Nat} (hw : w < 13) : cr_txL.getD w 0 ≤ 7 ∧ 3 ≤ cr_txL.getD w 0 := by
  have : ∀ w, w < 13 → cr_txL.getD w 0 ≤ 7 ∧ 3 ≤ cr_txL.getD w 0 := by decide
  exact this w hw
theorem cr_chA {τ : Nat → Nat} {w k : Nat} {I : cr_I} {Q : Int32 → cr_I → Prop} (hw : w < 13) (hk : k < cr_txL.getD w 0) (q : Q (cr_txc w k) I) : t_yJ0_charAt_5068e τ w (nI k) I Q := by
  have hl := cr_txL_le hw
  unfold t_yJ0_charAt_5068e t_yJ1_charAt_3b067 t_yJ0_checkIndex_df160 t_yJ3_checkIndex_8e157
  refine ⟨fun z => absurd z (show ¬ ((1 : Int32) = 0) by decide), fun _ => ⟨fun z => absurd z (nI_pos (by omega)), fun _ => ⟨fun _ => ⟨cr_ix (by omega) (by omega), pk_nc _, ?_⟩, fun z => absurd ?_ z⟩⟩⟩
  · rw [cr_nc (by omega)]
    exact q
  · exact (cr_nlt (by omega) (by omega)).mpr hk
theorem bk_yX7_isWord_0 {Γ : cr_G} {K : cr_K} {τ : Nat → Nat} {I : cr_I} {w : Nat} (hτ : cr_tau τ) (hw : w < 13) (h : cr_Ok yX7_isWord cX7_isWord 3 (some .boolean) (cr_rm0 4 85) K 247 247 Γ) (hyp : (((I 1 4) - (I 1 3)) = (f_yJ0_length_8abf5 τ w I) → cr_V Γ 20 [.ref 1, .ref (1003 + w), .int (0 : Int32)] [] I (cr_rf τ) 247) ∧ (¬ ((I 1 4) - (I 1 3)) = (f_yJ0_length_8abf5 τ w I) → K (some (.int (0 : Int32))) I (cr_rf τ))) : cr_V Γ 0 [.ref 1, .ref (1003 + w), .null] [] I (cr_rf τ) 247 := by
  refine cr_aload_n h (j := 0) rfl rfl dX7_isWord_0 ?_
  refine cr_getI h (k := 4) cr_clsX7 (by decide) rfl rfl wf_X7_29 (by decide) rfl dX7_isWord_1 ?_
  refine cr_aload_n h (j := 0) rfl rfl dX7_isWord_4 ?_
  refine cr_getI h (k := 3) cr_clsX7 (by decide) rfl rfl wf_X7_26 (by decide) rfl dX7_isWord_5 ?_
  refine cr_isub h dX7_isWord_8 ?_
  refine cr_aload_n h (j := 1) rfl rfl dX7_isWord_9 ?_
  refine cr_callVs h (i := w) hw C_yJ0_length_8abf5 cZ_yJ0_length_8abf5 rfl wm_X7_118 wv_yJ0_length_8abf5 we_yJ0_length_8abf5 (cr_rmS (by decide) (by decide)) (As := []) rfl (Nat.le_of_ble_eq_true rfl) dX7_isWord_10 ⟨τ, w, rfl, hτ, rfl, hw, ?_⟩
  show cr_V Γ 13 [.ref 1, .ref (1003 + w), .null] [.int (f_yJ0_length_8abf5 τ w I), .int ((I 1 4) - (I 1 3))] I (cr_rf τ) 247
  refine cr_icmp_eq h (tgt := 18) (by decide) dX7_isWord_13 (fun c1 => ?_) (fun c1 => ?_)
  · have hyp := hyp.1 c1
    refine cr_iconst h (v := (0 : Int32)) (by decide) dX7_isWord_18 ?_
    refine cr_istore_n h (j := 2) rfl (by decide) rfl dX7_isWord_19 ?_
    show cr_V Γ 20 [.ref 1, .ref (1003 + w), .int (0 : Int32)] [] I (cr_rf τ) 247
    exact cr_weak [true, true, true] hyp
  · have hyp := hyp.2 c1
    refine cr_iconst h (v := (0 : Int32)) (by decide) dX7_isWord_16 ?_
    refine cr_iret h rfl (by decide) rfl dX7_isWord_17 ?_
    exact hyp
theorem bk_yX7_isWord_20 {Γ : cr_G} {K : cr_K} {τ : Nat → Nat} {I : cr_I} {w : Nat} {x2 : Int32} (hτ : cr_tau τ) (hw : w < 13) (h : cr_Ok yX7_isWord cX7_isWord 3 (some .boolean) (cr_rm0 4 85) K 247 247 Γ) (hyp : ((f_yJ0_length_8abf5 τ w I) ≤ x2 → K (some (.int (1 : Int32))) I (cr_rf τ)) ∧ (¬ (f_yJ0_length_8abf5 τ w I) ≤ x2 → ((0 ≤ ((I 1 3) + x2).toInt ∧ ((I 1 3) + x2).toInt < 160) ∧ t_yJ0_charAt_5068e τ w x2 I (fun (r1 : Int32) (J1 : cr_I) => ((I 2 ((I 1 3) + x2).toNatClampNeg) = r1 → (∀ v1 : Int32, v1 = x2 + (1 : Int32) → cr_V Γ 20 [.ref 1, .ref (1003 + w), .int v1] [] J1 (cr_rf τ) 247)) ∧ (¬ (I 2 ((I 1 3) + x2).toNatClampNeg) = r1 → K (some (.int (0 : Int32))) J1 (cr_rf τ)))))) : cr_V Γ 20 [.ref 1, .ref (1003 + w), .int x2] [] I (cr_rf τ) 247 := by
  refine cr_iload_n h (j := 2) rfl rfl dX7_isWord_20 ?_
  refine cr_aload_n h (j := 1) rfl rfl dX7_isWord_21 ?_
  refine cr_callVs h (i := w) hw C_yJ0_length_8abf5 cZ_yJ0_length_8abf5 rfl wm_X7_118 wv_yJ0_length_8abf5 we_yJ0_length_8abf5 (cr_rmS (by decide) (by decide)) (As := []) rfl (Nat.le_of_ble_eq_true rfl) dX7_isWord_22 ⟨τ, w, rfl, hτ, rfl, hw, ?_⟩
  show cr_V Γ 25 [.ref 1, .ref (1003 + w), .int x2] [.int (f_yJ0_length_8abf5 τ w I), .int x2] I (cr_rf τ) 247
  refine cr_icmp_ge h (tgt := 55) (by decide) dX7_isWord_25 (fun c2 => ?_) (fun c2 => ?_)
  · have hyp := hyp.1 c2
    refine cr_iconst h (v := (1 : Int32)) (by decide) dX7_isWord_55 ?_
    refine cr_iret h rfl (by decide) rfl dX7_isWord_56 ?_
    exact hyp
  · have hyp := hyp.2 c2
    refine cr_aload_n h (j := 0) rfl rfl dX7_isWord_28 ?_
    refine cr_getR h (k := 0) cr_clsX7 (by decide) rfl rfl wf_X7_9 (by decide) rfl rfl dX7_isWord_29 ?_
    refine cr_aload_n h (j := 0) rfl rfl dX7_isWord_32 ?_
    refine cr_getI h (k := 3) cr_clsX7 (by decide) rfl rfl wf_X7_26 (by decide) rfl dX7_isWord_33 ?_
    refine cr_iload_n h (j := 2) rfl rfl dX7_isWord_36 ?_
    refine cr_iadd h dX7_isWord_37 ?_
    refine cs_ild h (by decide) rfl hyp.1 (q := ((I 1 3) + x2).toNatClampNeg) rfl dX7_isWord_38 ?_
    have hyp := hyp.2
    refine cr_aload_n h (j := 1) rfl rfl dX7_isWord_39 ?_
    refine cr_iload_n h (j := 2) rfl rfl dX7_isWord_40 ?_
    refine cr_callVs h (i := w) hw C_yJ0_charAt_5068e cZ_yJ0_charAt_5068e rfl wm_X7_122 wv_yJ0_charAt_5068e we_yJ0_charAt_5068e (cr_rmS (by decide) (by decide)) (As := [.int x2]) rfl (Nat.le_of_ble_eq_true rfl) dX7_isWord_41 ⟨τ, w, x2, _, rfl, hτ, rfl, hw, hyp, fun r1 J1 hyp => ?_⟩
    show cr_V Γ 44 [.ref 1, .ref (1003 + w), .int x2] [.int r1, .int (I 2 ((I 1 3) + x2).toNatClampNeg)] J1 (cr_rf τ) 247
    refine cr_icmp_eq h (tgt := 49) (by decide) dX7_isWord_44 (fun c3 => ?_) (fun c3 => ?_)
    · have hyp := hyp.1 c3
      refine cs_inc h (v := (1 : Int32)) 2 rfl (by decide) (by decide) rfl dX7_isWord_49 (fun v1 ev1 => ?_)
      have hyp := hyp v1 ev1
      show cr_V Γ 52 [.ref 1, .ref (1003 + w), .int v1] [] J1 (cr_rf τ) 247
      refine cr_goto h (tgt := 20) (by decide) dX7_isWord_52 ?_
      exact cr_weak [true, true, true] hyp
    · have hyp := hyp.2 c3
      refine cr_iconst h (v := (0 : Int32)) (by decide) dX7_isWord_47 ?_
      refine cr_iret h rfl (by decide) rfl dX7_isWord_48 ?_
      exact hyp
abbrev T_yX7_isWord : cr_T := fun vs I R K => ∃ (τ : Nat → Nat) (w : Nat), R = cr_rf τ ∧ cr_tau τ ∧ vs = [.ref 1, .ref (1003 + w)] ∧ (w < 13) ∧ p_yX7_isWord τ w I ∧ K (some (.int (f_yX7_isWord τ w I))) I (cr_rf τ)
abbrev S_yX7_isWord : Prop := cr_C yX7_isWord cX7_isWord 3 (some .boolean) (cr_rm0 4 85) 247 247 T_yX7_isWord
theorem G_yX7_isWord (H : ∀ (Γ : cr_G) (K : cr_K) (τ : Nat → Nat) (w : Nat) (I : cr_I), cr_tau τ → (w < 13) → cr_Ok yX7_isWord cX7_isWord 3 (some .boolean) (cr_rm0 4 85) K 247 247 Γ → p_yX7_isWord τ w I → K (some (.int (f_yX7_isWord τ w I))) I (cr_rf τ) → cr_V Γ 0 [.ref 1, .ref (1003 + w), .null] [] I (cr_rf τ) 247) : cr_C yX7_isWord cX7_isWord 3 (some .boolean) (cr_rm0 4 85) 247 247 T_yX7_isWord := by
  refine cr_C.of (by decide +kernel) (fun vs I R K hT => ?_) (fun Γ K h vs I R hT => ?_)
  · obtain ⟨τ, w, rfl, hτ, rfl, hw, hp, hK⟩ := hT
    exact Nat.le_of_ble_eq_true rfl
  · obtain ⟨τ, w, rfl, hτ, rfl, hw, hp, hK⟩ := hT
    exact H Γ K τ w I hτ hw h hp hK
theorem C_yX7_isWord : S_yX7_isWord := G_yX7_isWord (by
  intro Γ K τ w I hτ hw h hp hK
  obtain ⟨⟨eL, hL⟩, ⟨e3, e4⟩, ht1, ht2⟩ := cr_tkok.un hp
  have hl := cr_txL_le hw
  unfold f_yX7_isWord at hK
  generalize cr_tL I = L at *
  generalize cr_tt I = t at *
  have esub : I 1 4 - I 1 3 = nI (t.2 - t.1) := by
    rw [e3, e4]
    apply Int32.toInt_inj.mp
    rw [cr_sub (by rw [cr_nt (by omega), cr_nt (by omega)]; omega), cr_nt (by omega), cr_nt (by omega), cr_nt (by omega)]
    omega
  refine bk_yX7_isWord_0 hτ hw h ?_
  rw [cr_len, esub, cr_neq (by omega) (by omega)]
  refine ⟨fun c => ?_, fun c => ?_⟩
  · have hd : cr_isW (I 2) t w = cr_eqF (I 2) t.1 w (cr_txL.getD w 0) := by
      unfold cr_isW
      rw [decide_eq_true (by omega), Bool.true_and]
    rw [hd] at hK
    refine cr_loop (fun k => cr_eqF (I 2) t.1 w k = true → cr_V Γ 20 [.ref 1, .ref (1003 + w), .int (nI k)] [] I (cr_rf τ) 247) (cr_txL.getD w 0) ?_ ?_ 0 (Nat.zero_le _) rfl
    · intro he
      refine bk_yX7_isWord_20 hτ hw h ?_
      rw [cr_len]
      refine ⟨fun _ => ?_, fun c => absurd (Int32.le_refl _) c⟩
      rw [if_pos he] at hK
      exact hK
    · intro k hk ih he
      have eadd : I 1 3 + nI k = nI (t.1 + k) := by rw [e3, nI_add]
      refine bk_yX7_isWord_20 hτ hw h ?_
      rw [cr_len, eadd, cr_nc (by omega)]
      refine ⟨fun c => absurd c (cr_nle hk (by omega)), fun _ => ⟨cr_ix (by omega) (by omega), cr_chA hw hk ⟨fun c => ?_, fun c => ?_⟩⟩⟩
      · rintro v rfl
        rw [nI_1]
        exact ih (by rw [cr_eqF, he, decide_eq_true c]; rfl)
      · rw [cr_eqF_f c _ hk] at hK
        exact hK
  · have hd : cr_isW (I 2) t w = false := by
      unfold cr_isW
      rw [decide_eq_false (by omega), Bool.false_and]
    rw [hd] at hK
    exact hK)
def f_yX7_readingNamed (τ : Nat → Nat) (I : cr_I) : Int32 := if (f_yX7_isWord τ 4 I) = 0 then if (f_yX7_isWord τ 5 I) = 0 then if (f_yX7_isWord τ 6 I) = 0 then if (f_yX7_isWord τ 7 I) = 0 then if (f_yX7_isWord τ 8 I) = 0 then if (f_yX7_isWord τ 9 I) = 0 then (-1 : Int32) else (5 : Int32) else (4 : Int32) else (3 : Int32) else (2 : Int32) else (1 : Int32) else (0 : Int32)
def p_yX7_readingNamed (τ : Nat → Nat) (I : cr_I) : Prop := p_yX7_isWord τ 4 I ∧ ((f_yX7_isWord τ 4 I) = 0 → (p_yX7_isWord τ 5 I ∧ ((f_yX7_isWord τ 5 I) = 0 → (p_yX7_isWord τ 6 I ∧ ((f_yX7_isWord τ 6 I) = 0 → (p_yX7_isWord τ 7 I ∧ ((f_yX7_isWord τ 7 I) = 0 → (p_yX7_isWord τ 8 I ∧ ((f_yX7_isWord τ 8 I) = 0 → (p_yX7_isWord τ 9 I ∧ ((f_yX7_isWord τ 9 I) = 0 → True) ∧ (¬ (f_yX7_isWord τ 9 I) = 0 → True))) ∧ (¬ (f_yX7_isWord τ 8 I) = 0 → True))) ∧ (¬ (f_yX7_isWord τ 7 I) = 0 → True))) ∧ (¬ (f_yX7_isWord τ 6 I) = 0 → True))) ∧ (¬ (f_yX7_isWord τ 5 I) = 0 → True))) ∧ (¬ (f_yX7_isWord τ 4 I) = 0 → True)
abbrev T_yX7_readingNamed : cr_T := fun vs I R K => ∃ (τ : Nat → Nat), R = cr_rf τ ∧ cr_tau τ ∧ vs = [.ref 1] ∧ p_yX7_readingNamed τ I ∧ K (some (.int (f_yX7_readingNamed τ I))) I (cr_rf τ)
theorem C_yX7_readingNamed : cr_C yX7_readingNamed cX7_readingNamed 1 (some .int) (cr_rm0 5 107) 247 247 T_yX7_readingNamed := by
  refine cr_C.of (by decide +kernel) (fun vs I R K hT => ?_) (fun Γ K h vs I R hT => ?_)
  · obtain ⟨τ, rfl, hτ, rfl, hyp, hK⟩ := hT
    exact Nat.le_of_ble_eq_true rfl
  · obtain ⟨τ, rfl, hτ, rfl, hyp, hK⟩ := hT
    show cr_V Γ 0 [.ref 1] [] I (cr_rf τ) 247
    refine cr_aload_n h (j := 0) rfl rfl dX7_readingNamed_0 ?_
    refine cr_ldcS99 h rfl dX7_readingNamed_1 ?_
    refine cr_callV h (c0 := 7) (T0 := TX7) C_yX7_isWord cZ_yX7_isWord wm_X7_57 wv_yX7_isWord we_yX7_isWord (by decide) rfl rfl (cr_rmS (by decide) (by decide)) (As := [.ref 1007]) rfl (Nat.le_of_ble_eq_true rfl) dX7_readingNamed_3 ⟨τ, 4, rfl, hτ, rfl, (by decide), hyp.1, ?_⟩
    have hyp := hyp.2
    show cr_V Γ 6 [.ref 1] [.int (f_yX7_isWord τ 4 I)] I (cr_rf τ) 247
    refine cr_if_eq h (tgt := 11) (by decide) dX7_readingNamed_6 (fun c1 => ?_) (fun c1 => ?_)
    · have hyp := hyp.1 c1
      refine cr_aload_n h (j := 0) rfl rfl dX7_readingNamed_11 ?_
      refine cr_ldcS101 h rfl dX7_readingNamed_12 ?_
      refine cr_callV h (c0 := 7) (T0 := TX7) C_yX7_isWord cZ_yX7_isWord wm_X7_57 wv_yX7_isWord we_yX7_isWord (by decide) rfl rfl (cr_rmS (by decide) (by decide)) (As := [.ref 1008]) rfl (Nat.le_of_ble_eq_true rfl) dX7_readingNamed_14 ⟨τ, 5, rfl, hτ, rfl, (by decide), hyp.1, ?_⟩
      have hyp := hyp.2
      show cr_V Γ 17 [.ref 1] [.int (f_yX7_isWord τ 5 I)] I (cr_rf τ) 247
      refine cr_if_eq h (tgt := 22) (by decide) dX7_readingNamed_17 (fun c2 => ?_) (fun c2 => ?_)
      · have hyp := hyp.1 c2
        refine cr_aload_n h (j := 0) rfl rfl dX7_readingNamed_22 ?_
        refine cr_ldcS103 h rfl dX7_readingNamed_23 ?_
        refine cr_callV h (c0 := 7) (T0 := TX7) C_yX7_isWord cZ_yX7_isWord wm_X7_57 wv_yX7_isWord we_yX7_isWord (by decide) rfl rfl (cr_rmS (by decide) (by decide)) (As := [.ref 1009]) rfl (Nat.le_of_ble_eq_true rfl) dX7_readingNamed_25 ⟨τ, 6, rfl, hτ, rfl, (by decide), hyp.1, ?_⟩
        have hyp := hyp.2
        show cr_V Γ 28 [.ref 1] [.int (f_yX7_isWord τ 6 I)] I (cr_rf τ) 247
        refine cr_if_eq h (tgt := 33) (by decide) dX7_readingNamed_28 (fun c3 => ?_) (fun c3 => ?_)
        · have hyp := hyp.1 c3
          refine cr_aload_n h (j := 0) rfl rfl dX7_readingNamed_33 ?_
          refine cr_ldcS105 h rfl dX7_readingNamed_34 ?_
          refine cr_callV h (c0 := 7) (T0 := TX7) C_yX7_isWord cZ_yX7_isWord wm_X7_57 wv_yX7_isWord we_yX7_isWord (by decide) rfl rfl (cr_rmS (by decide) (by decide)) (As := [.ref 1010]) rfl (Nat.le_of_ble_eq_true rfl) dX7_readingNamed_36 ⟨τ, 7, rfl, hτ, rfl, (by decide), hyp.1, ?_⟩
          have hyp := hyp.2
          show cr_V Γ 39 [.ref 1] [.int (f_yX7_isWord τ 7 I)] I (cr_rf τ) 247
          refine cr_if_eq h (tgt := 44) (by decide) dX7_readingNamed_39 (fun c4 => ?_) (fun c4 => ?_)
          · have hyp := hyp.1 c4
            refine cr_aload_n h (j := 0) rfl rfl dX7_readingNamed_44 ?_
            refine cr_ldcS107 h rfl dX7_readingNamed_45 ?_
            refine cr_callV h (c0 := 7) (T0 := TX7) C_yX7_isWord cZ_yX7_isWord wm_X7_57 wv_yX7_isWord we_yX7_isWord (by decide) rfl rfl (cr_rmS (by decide) (by decide)) (As := [.ref 1011]) rfl (Nat.le_of_ble_eq_true rfl) dX7_readingNamed_47 ⟨τ, 8, rfl, hτ, rfl, (by decide), hyp.1, ?_⟩
            have hyp := hyp.2
            show cr_V Γ 50 [.ref 1] [.int (f_yX7_isWord τ 8 I)] I (cr_rf τ) 247
            refine cr_if_eq h (tgt := 55) (by decide) dX7_readingNamed_50 (fun c5 => ?_) (fun c5 => ?_)
            · have hyp := hyp.1 c5
              refine cr_aload_n h (j := 0) rfl rfl dX7_readingNamed_55 ?_
              refine cr_ldcS109 h rfl dX7_readingNamed_56 ?_
              refine cr_callV h (c0 := 7) (T0 := TX7) C_yX7_isWord cZ_yX7_isWord wm_X7_57 wv_yX7_isWord we_yX7_isWord (by decide) rfl rfl (cr_rmS (by decide) (by decide)) (As := [.ref 1012]) rfl (Nat.le_of_ble_eq_true rfl) dX7_readingNamed_58 ⟨τ, 9, rfl, hτ, rfl, (by decide), hyp.1, ?_⟩
              have hyp := hyp.2
              show cr_V Γ 61 [.ref 1] [.int (f_yX7_isWord τ 9 I)] I (cr_rf τ) 247
              refine cr_if_eq h (tgt := 68) (by decide) dX7_readingNamed_61 (fun c6 => ?_) (fun c6 => ?_)
              · have hyp := hyp.1 c6
                refine cr_iconst h (v := (-1 : Int32)) (by decide) dX7_readingNamed_68 ?_
                refine cr_iret h rfl rfl rfl dX7_readingNamed_69 ?_
                rw [f_yX7_readingNamed, if_pos c1, if_pos c2, if_pos c3, if_pos c4, if_pos c5, if_pos c6] at hK
                exact hK
              · have hyp := hyp.2 c6
                refine cr_iconst h (v := (5 : Int32)) (by decide) dX7_readingNamed_64 ?_
                refine cr_goto h (tgt := 69) (by decide) dX7_readingNamed_65 ?_
                refine cr_iret h rfl rfl rfl dX7_readingNamed_69 ?_
                rw [f_yX7_readingNamed, if_pos c1, if_pos c2, if_pos c3, if_pos c4, if_pos c5, if_neg c6] at hK
                exact hK
            · have hyp := hyp.2 c5
              refine cr_iconst h (v := (4 : Int32)) (by decide) dX7_readingNamed_53 ?_
              refine cr_iret h rfl rfl rfl dX7_readingNamed_54 ?_
              rw [f_yX7_readingNamed, if_pos c1, if_pos c2, if_pos c3, if_pos c4, if_neg c5] at hK
              exact hK
          · have hyp := hyp.2 c4
            refine cr_iconst h (v := (3 : Int32)) (by decide) dX7_readingNamed_42 ?_
            refine cr_iret h rfl rfl rfl dX7_readingNamed_43 ?_
            rw [f_yX7_readingNamed, if_pos c1, if_pos c2, if_pos c3, if_neg c4] at hK
            exact hK
        · have hyp := hyp.2 c3
          refine cr_iconst h (v := (2 : Int32)) (by decide) dX7_readingNamed_31 ?_
          refine cr_iret h rfl rfl rfl dX7_readingNamed_32 ?_
          rw [f_yX7_readingNamed, if_pos c1, if_pos c2, if_neg c3] at hK
          exact hK
      · have hyp := hyp.2 c2
        refine cr_iconst h (v := (1 : Int32)) (by decide) dX7_readingNamed_20 ?_
        refine cr_iret h rfl rfl rfl dX7_readingNamed_21 ?_
        rw [f_yX7_readingNamed, if_pos c1, if_neg c2] at hK
        exact hK
    · have hyp := hyp.2 c1
      refine cr_iconst h (v := (0 : Int32)) (by decide) dX7_readingNamed_9 ?_
      refine cr_iret h rfl rfl rfl dX7_readingNamed_10 ?_
      rw [f_yX7_readingNamed, if_neg c1] at hK
      exact hK
/-- the reading that a token names -/
def cr_rdS (B : Nat → Int32) (t : cr_tk) : Int32 := if cr_isW B t 4 = true then 0 else if cr_isW B t 5 = true then 1 else if cr_isW B t 6 = true then 2 else if cr_isW B t 7 = true then 3 else if cr_isW B t 8 = true then 4 else if cr_isW B t 9 = true then 5 else -1
theorem cr_fW0 {τ : Nat → Nat} {w : Nat} {I : cr_I} : (f_yX7_isWord τ w I = 0) ↔ ¬ cr_isW (I 2) (cr_tt I) w = true := by
  unfold f_yX7_isWord
  split
  · rename_i q
    exact ⟨fun z => absurd z (by decide), fun z => absurd q z⟩
  · rename_i q
    exact ⟨fun _ => q, fun _ => rfl⟩
theorem cr_rd_eq {τ : Nat → Nat} {I : cr_I} : f_yX7_readingNamed τ I = cr_rdS (I 2) (cr_tt I) := by
  unfold f_yX7_readingNamed cr_rdS
  simp only [cr_fW0]
  by_cases h4 : cr_isW (I 2) (cr_tt I) 4 = true
  · simp [h4]
  by_cases h5 : cr_isW (I 2) (cr_tt I) 5 = true
  · simp [h4, h5]
  by_cases h6 : cr_isW (I 2) (cr_tt I) 6 = true
  · simp [h4, h5, h6]
  by_cases h7 : cr_isW (I 2) (cr_tt I) 7 = true
  · simp [h4, h5, h6, h7]
  by_cases h8 : cr_isW (I 2) (cr_tt I) 8 = true
  · simp [h4, h5, h6, h7, h8]
  by_cases h9 : cr_isW (I 2) (cr_tt I) 9 = true
  · simp [h4, h5, h6, h7, h8, h9]
  · simp [h4, h5, h6, h7, h8, h9]
theorem cr_rd_p {τ : Nat → Nat} {I : cr_I} (h : cr_tkok I) : p_yX7_readingNamed τ I := by
  unfold p_yX7_readingNamed
  exact ⟨h, fun _ => ⟨h, fun _ => ⟨h, fun _ => ⟨h, fun _ => ⟨h, fun _ => ⟨h, fun _ => trivial, fun _ => trivial⟩, fun _ => trivial⟩, fun _ => trivial⟩, fun _ => trivial⟩, fun _ => trivial⟩, fun _ => trivial⟩
theorem cr_rdS_lt {B : Nat → Int32} {t : cr_tk} (h : ¬ cr_rdS B t = -1) : 0 ≤ (cr_rdS B t).toInt ∧ (cr_rdS B t).toInt < 6 := by
  revert h
  unfold cr_rdS
  repeat' split
  all_goals first | (intro _; decide) | (intro q; exact absurd rfl q)
theorem cr_tt_tx {I : cr_I} {t : cr_tk} (h1 : t.1 < 100000) (h2 : t.2 < 100000) : cr_tt (cr_tx I t) = t := by
  unfold cr_tt
  rw [cr_tx_3, cr_tx_4, cr_nc h1, cr_nc h2]
theorem cr_tL_tx {I : cr_I} {t : cr_tk} : cr_tL (cr_tx I t) = cr_tL I := by
  unfold cr_tL
  rw [cr_tx_1]
/-- a text in the state of a token -/
def cr_at (I : cr_I) (t : cr_tk) : Prop := (I 1 1 = nI (cr_tL I) ∧ cr_tL I ≤ 160) ∧ cr_tok (cr_tL I) t
theorem cr_at.ok {I : cr_I} {t : cr_tk} (h : cr_at I t) : cr_tkok (cr_tx I t) := by
  obtain ⟨⟨eL, hL⟩, h1, h2⟩ := h
  refine ⟨?_, ?_, ?_⟩
  · unfold cr_Lok
    rw [cr_tx_1, eL, cr_nt (by omega)]
    omega
  · rw [cr_tx_3, cr_tx_4, cr_nt (by omega), cr_nt (by omega)]
    omega
  · rw [cr_tx_1, cr_tx_4, eL, cr_nt (by omega), cr_nt (by omega)]
    omega
theorem cr_at.tt {I : cr_I} {t : cr_tk} (h : cr_at I t) : cr_tt (cr_tx I t) = t := cr_tt_tx (by have := h.1.2; have := h.2; unfold cr_tok at this; omega) (by have := h.1.2; have := h.2; unfold cr_tok at this; omega)
theorem cr_at.nx {I : cr_I} {t : cr_tk} (h : cr_at I t) : cr_at I (cr_nx (I 2) (cr_tL I) t) := ⟨h.1, cr_nx_ok h.2.2⟩
/-- advance from such a state -/
theorem cr_at.adv {τ : Nat → Nat} {I : cr_I} {t : cr_tk} (h : cr_at I t) : p_yX7_advance τ (cr_tx I t) ∧ ∀ J, q_yX7_advance τ (cr_tx I t) J → J = cr_tx I (cr_nx (I 2) (cr_tL I) t) := by
  have hk := h.ok
  refine ⟨⟨hk.1, by have := hk.2; omega, hk.2.2⟩, fun J hJ => ?_⟩
  unfold q_yX7_advance at hJ
  rw [hJ, cr_tx_tx, cr_tx_r (by decide), cr_tL_tx, h.tt]
theorem cr_at.up {I : cr_I} {t : cr_tk} {b k : Nat} {v : Int32} (h : cr_at I t) (hb : b ≠ 1) : cr_at (cr_up I b k v) t := by
  unfold cr_at cr_tL at *
  rw [cr_up_b (Ne.symm hb)]
  exact h
theorem cr_at.fW {τ : Nat → Nat} {I : cr_I} {t : cr_tk} (h : cr_at I t) {w : Nat} : f_yX7_isWord τ w (cr_tx I t) = if cr_isW (I 2) t w = true then 1 else 0 := by
  unfold f_yX7_isWord
  rw [h.tt, cr_tx_r (by decide)]
theorem cr_at.fW0 {τ : Nat → Nat} {I : cr_I} {t : cr_tk} (h : cr_at I t) {w : Nat} : (f_yX7_isWord τ w (cr_tx I t) = 0) ↔ ¬ cr_isW (I 2) t w = true := by
  rw [cr_fW0, h.tt, cr_tx_r (by decide)]
theorem cr_at.fN {τ : Nat → Nat} {I : cr_I} {t : cr_tk} (h : cr_at I t) : p_yX7_isNumber τ (cr_tx I t) ∧ ((f_yX7_isNumber τ (cr_tx I t) = 0) ↔ ¬ cr_isN (I 2) (cr_tL I) t = true) := by
  obtain ⟨⟨eL, hL⟩, h1, h2⟩ := h
  have esub : cr_tx I t 1 4 - cr_tx I t 1 3 = nI (t.2 - t.1) := by
    rw [cr_tx_3, cr_tx_4]
    apply Int32.toInt_inj.mp
    rw [cr_sub (by rw [cr_nt (by omega), cr_nt (by omega)]; omega), cr_nt (by omega), cr_nt (by omega), cr_nt (by omega)]
    omega
  have hdig : ∀ c : Int32, (f_yX7_isDigit τ c (cr_tx I t) = 0) ↔ ¬ cr_kdS c = 1 := by
    intro c
    have : f_yX7_isDigit τ c (cr_tx I t) = f_yX7_isDigit (fun _ => 0) c (fun _ _ => 0) := rfl
    rw [this]
    unfold cr_kdS f_yX7_kindOf f_yX7_isDigit
    have a48 : (48 : Int32).toInt = 48 := rfl
    have a57 : (57 : Int32).toInt = 57 := rfl
    have a97 : (97 : Int32).toInt = 97 := rfl
    have a122 : (122 : Int32).toInt = 122 := rfl
    simp only [cr_lt, a48, a57, a97, a122]
    by_cases q1 : c.toInt < 48
    · rw [if_pos q1, if_pos (show c.toInt < 97 by omega), if_pos rfl]
      exact ⟨fun _ => by decide, fun _ => rfl⟩
    · rw [if_neg q1]
      by_cases q2 : 57 < c.toInt
      · rw [if_pos q2, if_pos rfl]
        refine ⟨fun _ => ?_, fun _ => rfl⟩
        split
        · decide
        · split <;> decide
      · rw [if_neg q2, if_pos (show c.toInt < 97 by omega), if_neg (show ¬ ((1 : Int32) = 0) by decide)]
        exact ⟨fun z => absurd z (by decide), fun z => absurd rfl z⟩
  unfold p_yX7_isNumber f_yX7_isNumber
  have etwo : ((2 : Int32) < nI (t.2 - t.1)) ↔ 2 < t.2 - t.1 := cr_nlt (a := 2) (by omega) (by omega)
  rw [cr_tx_3] at esub
  have e2b : ∀ k, cr_tx I t 2 k = I 2 k := fun k => cr_tx_b (by decide)
  simp only [cr_atE (τ := τ) eL (show t.1 < 100000 by omega) (show cr_tL I < 100000 by omega), esub, etwo, cr_tx_3, cr_nc (show t.1 < 100000 by omega), e2b, hdig]
  unfold cr_isN
  by_cases q : t.1 < cr_tL I
  · rw [if_pos q, if_pos rfl, decide_eq_true q, Bool.true_and]
    refine ⟨⟨fun z => absurd rfl z, fun _ => ⟨cr_ix (by omega) (by omega), fun _ => trivial, fun _ => ⟨fun _ => trivial, fun _ => trivial⟩⟩⟩, ?_⟩
    by_cases q2 : cr_kdS (I 2 t.1) = 1
    · rw [if_neg (fun z => z q2), decide_eq_true q2, Bool.true_and]
      by_cases q3 : 2 < t.2 - t.1
      · rw [if_pos q3, decide_eq_false (by omega)]
        exact ⟨fun _ => by decide, fun _ => rfl⟩
      · rw [if_neg q3, decide_eq_true (by omega)]
        exact ⟨fun z => absurd z (by decide), fun z => absurd rfl z⟩
    · rw [if_pos q2, decide_eq_false q2, Bool.false_and]
      exact ⟨fun _ => by decide, fun _ => rfl⟩
  · rw [if_neg q, if_neg (by decide), decide_eq_false q, Bool.false_and, Bool.false_and]
    exact ⟨⟨fun _ => trivial, fun z => absurd z (by decide)⟩, ⟨fun _ => by decide, fun _ => rfl⟩⟩
