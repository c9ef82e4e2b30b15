/-! writing, rows -/
def cr_by (W : Int64) (i : Nat) : Int32 := ((W >>> (((8 : Int32) * nI i).toInt64 &&& 63)) &&& (255 : Int64)).toInt32
def cr_wrS (B : Nat → Int32) (L n : Nat) (W : Int64) (i : Nat) : Int32 := if L ≤ i ∧ i < L + n then cr_by W (i - L) else B i
def cr_PW (b k : Nat) : Prop := (b = 1 ∧ k = 1) ∨ b = 2
def cr_PmW (b k : Nat) : Prop := (b = 200 ∧ k = 5) ∨ b = 205
def p_yX8_write (τ : Nat → Nat) (x1 : Int64) (x3 : Int32) (I : cr_I) : Prop := cr_Lok I
def q_yX8_write (τ : Nat → Nat) (x1 : Int64) (x3 : Int32) (I : cr_I) (r : Int32) (J : cr_I) : Prop := (¬ (1 ≤ x3.toInt ∧ x3.toInt ≤ 8) ∧ r = -3 ∧ J = I) ∨ ((1 ≤ x3.toInt ∧ x3.toInt ≤ 8) ∧ ((160 < cr_tL I + x3.toNatClampNeg ∧ r = -5 ∧ J = I) ∨ (cr_tL I + x3.toNatClampNeg ≤ 160 ∧ r = nI (cr_tL I + x3.toNatClampNeg) ∧ J 1 1 = nI (cr_tL I + x3.toNatClampNeg) ∧ J 2 = cr_wrS (I 2) (cr_tL I) x3.toNatClampNeg x1 ∧ cr_F cr_PW I J)))
def p_yX9_write (τ : Nat → Nat) (x1 : Int64) (x3 : Int32) (I : cr_I) : Prop := 0 ≤ (I 200 5).toInt ∧ (I 200 5).toInt ≤ 160
def q_yX9_write (τ : Nat → Nat) (x1 : Int64) (x3 : Int32) (I : cr_I) (r : Int32) (J : cr_I) : Prop := (¬ (1 ≤ x3.toInt ∧ x3.toInt ≤ 8) ∧ r = -3 ∧ J = I) ∨ ((1 ≤ x3.toInt ∧ x3.toInt ≤ 8) ∧ ((160 < cr_mL I + x3.toNatClampNeg ∧ r = -5 ∧ J = I) ∨ (cr_mL I + x3.toNatClampNeg ≤ 160 ∧ r = nI (cr_mL I + x3.toNatClampNeg) ∧ J 200 5 = nI (cr_mL I + x3.toNatClampNeg) ∧ J 205 = cr_wrS (I 205) (cr_mL I) x3.toNatClampNeg x1 ∧ cr_F cr_PmW I J)))
theorem cr_wrS_0 {B : Nat → Int32} {L : Nat} {W : Int64} : cr_wrS B L 0 W = B := by
  funext i
  unfold cr_wrS
  rw [if_neg (by omega)]
theorem cr_wrS_1 {B : Nat → Int32} {L k : Nat} {W : Int64} : (fun i => if i = L + k then cr_by W k else cr_wrS B L k W i) = cr_wrS B L (k + 1) W := by
  funext i
  unfold cr_wrS
  by_cases e : i = L + k
  · rw [if_pos e, if_pos (by omega), show i - L = k by omega]
  · rw [if_neg e]
    by_cases q : L ≤ i ∧ i < L + k
    · rw [if_pos q, if_pos (by omega)]
    · rw [if_neg q, if_neg (by omega)]
def t_yX7_add (τ : Nat → Nat) (x1 : Int32) (I : cr_I) (Q : cr_I → Prop) : Prop := ((160 : Int32) ≤ (I 1 1) → Q I) ∧ (¬ (160 : Int32) ≤ (I 1 1) → ((0 ≤ (I 1 1).toInt ∧ (I 1 1).toInt < 160) ∧ (∀ J1 : cr_I, J1 = cr_up I 2 ((I 1 1).toNatClampNeg) x1 → (∀ J2 : cr_I, J2 = cr_up J1 1 1 ((J1 1 1) + (1 : Int32)) → Q J2))))
abbrev T_yX7_add : cr_T := fun vs I R K => ∃ (τ : Nat → Nat) (x1 : Int32) (Q : cr_I → Prop), R = cr_rf τ ∧ cr_tau τ ∧ vs = [.ref 1, .int x1] ∧ t_yX7_add τ x1 I Q ∧ ∀ J, Q J → K none J (cr_rf τ)
theorem C_yX7_add : cr_C yX7_add cX7_add 2 none (cr_rm0 0 0) 247 247 T_yX7_add := by
  refine cr_C.of (by decide +kernel) (fun vs I R K hT => ?_) (fun Γ K h vs I R hT => ?_)
  · obtain ⟨τ, x1, Q, rfl, hτ, rfl, hyp, hK⟩ := hT
    exact Nat.le_of_ble_eq_true rfl
  · obtain ⟨τ, x1, Q, rfl, hτ, rfl, hyp, hK⟩ := hT
    unfold t_yX7_add at hyp
    show cr_V Γ 0 [.ref 1, .int x1] [] I (cr_rf τ) 247
    refine cr_aload_n h (j := 0) rfl rfl dX7_add_0 ?_
    refine cr_getI h (k := 1) cr_clsX7 (by decide) rfl rfl wf_X7_15 (by decide) rfl dX7_add_1 ?_
    refine cr_sipush h (v := (160 : Int32)) (by decide) dX7_add_4 ?_
    refine cr_icmp_ge h (tgt := 30) (by decide) dX7_add_7 (fun c1 => ?_) (fun c1 => ?_)
    · have hyp := hyp.1 c1
      refine cr_vret h rfl rfl dX7_add_30 ?_
      exact hK _ hyp
    · have hyp := hyp.2 c1
      refine cr_aload_n h (j := 0) rfl rfl dX7_add_10 ?_
      refine cr_getR h (k := 0) cr_clsX7 (by decide) rfl rfl wf_X7_9 (by decide) rfl rfl dX7_add_11 ?_
      refine cr_aload_n h (j := 0) rfl rfl dX7_add_14 ?_
      refine cr_getI h (k := 1) cr_clsX7 (by decide) rfl rfl wf_X7_15 (by decide) rfl dX7_add_15 ?_
      refine cr_iload_n h (j := 1) rfl rfl dX7_add_18 ?_
      refine cs_ist h (by decide) (by decide) rfl hyp.1 (q := (I 1 1).toNatClampNeg) rfl dX7_add_19 (fun J1 eJ1 => ?_)
      have hyp := hyp.2 J1 eJ1
      refine cr_aload_n h (j := 0) rfl rfl dX7_add_20 ?_
      refine cr_dup h rfl dX7_add_21 ?_
      refine cr_getI h (k := 1) cr_clsX7 (by decide) rfl rfl wf_X7_15 (by decide) rfl dX7_add_22 ?_
      refine cr_iconst h (v := (1 : Int32)) (by decide) dX7_add_25 ?_
      refine cr_iadd h dX7_add_26 ?_
      refine cs_put h (k := 1) cr_clsX7 (by decide) rfl rfl rfl rfl wf_X7_15 (by decide) (by decide) rfl dX7_add_27 (fun J2 eJ2 => ?_)
      have hyp := hyp J2 eJ2
      refine cr_vret h rfl rfl dX7_add_30 ?_
      exact hK _ hyp
theorem bk_yX8_write_0 {Γ : cr_G} {K : cr_K} {τ : Nat → Nat} {I : cr_I} {x1 : Int64} {x3 : Int32} (hτ : cr_tau τ)  (h : cr_Ok yX8_write cX8_write 5 (some .int) (cr_rm0 1 22) K 247 247 Γ) (hyp : ((f_yX8_isOutside τ x3 (1 : Int32) (8 : Int32) I) = 0 → ((((I 1 1) + x3) ≤ (160 : Int32) → cr_V Γ 34 [.ref 0, .long x1, .null, .int x3, .int (0 : Int32)] [] I (cr_rf τ) 247) ∧ (¬ ((I 1 1) + x3) ≤ (160 : Int32) → K (some (.int (-5 : Int32))) I (cr_rf τ)))) ∧ (¬ (f_yX8_isOutside τ x3 (1 : Int32) (8 : Int32) I) = 0 → K (some (.int (-3 : Int32))) I (cr_rf τ))) : cr_V Γ 0 [.ref 0, .long x1, .null, .int x3, .null] [] I (cr_rf τ) 247 := by
  refine cr_iload_n h (j := 3) rfl rfl dX8_write_0 ?_
  refine cr_iconst h (v := (1 : Int32)) (by decide) dX8_write_1 ?_
  refine cr_bipush h (v := (8 : Int32)) (by decide) dX8_write_2 ?_
  refine cr_callS h C_yX8_isOutside cZ_yX8_isOutside wm_X8_55 ws_yX8_isOutside (cr_rmS (by decide) (by decide)) (As := [.int x3, .int (1 : Int32), .int (8 : Int32)]) rfl (Nat.le_of_ble_eq_true rfl) dX8_write_4 ⟨τ, x3, (1 : Int32), (8 : Int32), rfl, hτ, rfl, ?_⟩
  show cr_V Γ 7 [.ref 0, .long x1, .null, .int x3, .null] [.int (f_yX8_isOutside τ x3 (1 : Int32) (8 : Int32) I)] I (cr_rf τ) 247
  refine cr_if_eq h (tgt := 13) (by decide) dX8_write_7 (fun c1 => ?_) (fun c1 => ?_)
  · have hyp := hyp.1 c1
    refine cr_aload_n h (j := 0) rfl rfl dX8_write_13 ?_
    refine cr_getR h (k := 0) cr_clsX8 (by decide) rfl rfl wf_X8_10 (by decide) rfl rfl dX8_write_14 ?_
    refine cr_getI h (k := 1) cr_clsX7 (by decide) rfl rfl wf_X8_78 (by decide) rfl dX8_write_17 ?_
    refine cr_iload_n h (j := 3) rfl rfl dX8_write_20 ?_
    refine cr_iadd h dX8_write_21 ?_
    refine cr_sipush h (v := (160 : Int32)) (by decide) dX8_write_22 ?_
    refine cr_icmp_le h (tgt := 31) (by decide) dX8_write_25 (fun c2 => ?_) (fun c2 => ?_)
    · have hyp := hyp.1 c2
      refine cr_iconst h (v := (0 : Int32)) (by decide) dX8_write_31 ?_
      refine cr_istore h (by decide) rfl dX8_write_32 ?_
      show cr_V Γ 34 [.ref 0, .long x1, .null, .int x3, .int (0 : Int32)] [] I (cr_rf τ) 247
      exact cr_weak [true, true, false, true, true] hyp
    · have hyp := hyp.2 c2
      refine cr_bipush h (v := (-5 : Int32)) (by decide) dX8_write_28 ?_
      refine cr_iret h rfl rfl rfl dX8_write_30 ?_
      exact hyp
  · have hyp := hyp.2 c1
    refine cr_bipush h (v := (-3 : Int32)) (by decide) dX8_write_10 ?_
    refine cr_iret h rfl rfl rfl dX8_write_12 ?_
    exact hyp
theorem bk_yX8_write_34 {Γ : cr_G} {K : cr_K} {τ : Nat → Nat} {I : cr_I} {x1 : Int64} {x3 : Int32} {x4 : Int32} (hτ : cr_tau τ)  (h : cr_Ok yX8_write cX8_write 5 (some .int) (cr_rm0 1 22) K 247 247 Γ) (hyp : (x3 ≤ x4 → K (some (.int (I 1 1))) I (cr_rf τ)) ∧ (¬ x3 ≤ x4 → (t_yX7_add τ (((x1 >>> (((8 : Int32) * x4).toInt64 &&& 63)) &&& (255 : Int64)).toInt32) I (fun (J1 : cr_I) => ∀ v1 : Int32, v1 = x4 + (1 : Int32) → cr_V Γ 34 [.ref 0, .long x1, .null, .int x3, .int v1] [] J1 (cr_rf τ) 247)))) : cr_V Γ 34 [.ref 0, .long x1, .null, .int x3, .int x4] [] I (cr_rf τ) 247 := by
  refine cr_iload h rfl dX8_write_34 ?_
  refine cr_iload_n h (j := 3) rfl rfl dX8_write_36 ?_
  refine cr_icmp_ge h (tgt := 65) (by decide) dX8_write_37 (fun c3 => ?_) (fun c3 => ?_)
  · have hyp := hyp.1 c3
    refine cr_aload_n h (j := 0) rfl rfl dX8_write_65 ?_
    refine cr_getR h (k := 0) cr_clsX8 (by decide) rfl rfl wf_X8_10 (by decide) rfl rfl dX8_write_66 ?_
    refine cr_getI h (k := 1) cr_clsX7 (by decide) rfl rfl wf_X8_78 (by decide) rfl dX8_write_69 ?_
    refine cr_iret h rfl rfl rfl dX8_write_72 ?_
    exact hyp
  · have hyp := hyp.2 c3
    refine cr_aload_n h (j := 0) rfl rfl dX8_write_40 ?_
    refine cr_getR h (k := 0) cr_clsX8 (by decide) rfl rfl wf_X8_10 (by decide) rfl rfl dX8_write_41 ?_
    refine cr_lload_n h (j := 1) rfl rfl dX8_write_44 ?_
    refine cr_bipush h (v := (8 : Int32)) (by decide) dX8_write_45 ?_
    refine cr_iload h rfl dX8_write_47 ?_
    refine cr_imul h dX8_write_49 ?_
    refine cr_lshr h dX8_write_50 ?_
    refine cr_ldc2 h wc_X8_81 dX8_write_51 ?_
    refine cr_land h dX8_write_54 ?_
    refine cr_l2i h dX8_write_55 ?_
    refine cr_callV h (c0 := 7) (T0 := TX7) C_yX7_add cZ_yX7_add wm_X8_83 wv_yX7_add we_yX7_add (by decide) rfl rfl (cr_rmS (by decide) (by decide)) (As := [.int ((x1 >>> (((8 : Int32) * x4).toInt64 &&& 63)) &&& (255 : Int64)).toInt32]) rfl (Nat.le_of_ble_eq_true rfl) dX8_write_56 ⟨τ, ((x1 >>> (((8 : Int32) * x4).toInt64 &&& 63)) &&& (255 : Int64)).toInt32, _, rfl, hτ, rfl, hyp, fun J1 hyp => ?_⟩
    show cr_V Γ 59 [.ref 0, .long x1, .null, .int x3, .int x4] [] J1 (cr_rf τ) 247
    refine cs_inc h (v := (1 : Int32)) 4 rfl (by decide) (by decide) rfl dX8_write_59 (fun v1 ev1 => ?_)
    have hyp := hyp v1 ev1
    show cr_V Γ 62 [.ref 0, .long x1, .null, .int x3, .int v1] [] J1 (cr_rf τ) 247
    refine cr_goto h (tgt := 34) (by decide) dX8_write_62 ?_
    exact cr_weak [true, true, false, true, true] hyp
abbrev T_yX8_write : cr_T := fun vs I R K => ∃ (τ : Nat → Nat) (x1 : Int64) (x3 : Int32), R = cr_rf τ ∧ cr_tau τ ∧ vs = [.ref 0, .long x1, .int x3] ∧ p_yX8_write τ x1 x3 I ∧ ∀ (r : Int32) J, q_yX8_write τ x1 x3 I r J → K (some (.int r)) J (cr_rf τ)
abbrev S_yX8_write : Prop := cr_C yX8_write cX8_write 5 (some .int) (cr_rm0 1 22) 247 247 T_yX8_write
theorem G_yX8_write (H : ∀ (Γ : cr_G) (K : cr_K) (τ : Nat → Nat) (x1 : Int64) (x3 : Int32) (I : cr_I), cr_tau τ → cr_Ok yX8_write cX8_write 5 (some .int) (cr_rm0 1 22) K 247 247 Γ → p_yX8_write τ x1 x3 I → (∀ (r : Int32) J, q_yX8_write τ x1 x3 I r J → K (some (.int r)) J (cr_rf τ)) → cr_V Γ 0 [.ref 0, .long x1, .null, .int x3, .null] [] I (cr_rf τ) 247) : cr_C yX8_write cX8_write 5 (some .int) (cr_rm0 1 22) 247 247 T_yX8_write := by
  refine cr_C.of (by decide +kernel) (fun vs I R K hT => ?_) (fun Γ K h vs I R hT => ?_)
  · obtain ⟨τ, x1, x3, rfl, hτ, rfl, hp, hK⟩ := hT
    exact Nat.le_of_ble_eq_true rfl
  · obtain ⟨τ, x1, x3, rfl, hτ, rfl, hp, hK⟩ := hT
    exact H Γ K τ x1 x3 I hτ h hp hK
theorem bk_yX9_write_0 {Γ : cr_G} {K : cr_K} {τ : Nat → Nat} {I : cr_I} {x1 : Int64} {x3 : Int32} (hτ : cr_tau τ)  (h : cr_Ok yX9_write cX9_write 5 (some .int) (cr_rm0 1 25) K 247 247 Γ) (hyp : (¬ (f_yX9_in τ x3.toInt64 (1 : Int64) (8 : Int64) I) = 0 → ((((I 200 5) + x3) ≤ (160 : Int32) → cr_V Γ 33 [.ref 200, .long x1, .null, .int x3, .int (0 : Int32)] [] I (cr_rf τ) 247) ∧ (¬ ((I 200 5) + x3) ≤ (160 : Int32) → K (some (.int (-5 : Int32))) I (cr_rf τ)))) ∧ ((f_yX9_in τ x3.toInt64 (1 : Int64) (8 : Int64) I) = 0 → K (some (.int (-3 : Int32))) I (cr_rf τ))) : cr_V Γ 0 [.ref 200, .long x1, .null, .int x3, .null] [] I (cr_rf τ) 247 := by
  refine cr_iload_n h (j := 3) rfl rfl dX9_write_0 ?_
  refine cr_i2l h dX9_write_1 ?_
  refine cr_lconst h (v := (1 : Int64)) (by decide) dX9_write_2 ?_
  refine cr_ldc2 h wc_X9_168 dX9_write_3 ?_
  refine cr_callS h C_yX9_in cZ_yX9_in wm_X9_154 ws_yX9_in (cr_rmS (by decide) (by decide)) (As := [.long x3.toInt64, .long (1 : Int64), .long (8 : Int64)]) rfl (Nat.le_of_ble_eq_true rfl) dX9_write_6 ⟨τ, x3.toInt64, (1 : Int64), (8 : Int64), rfl, hτ, rfl, ?_⟩
  show cr_V Γ 9 [.ref 200, .long x1, .null, .int x3, .null] [.int (f_yX9_in τ x3.toInt64 (1 : Int64) (8 : Int64) I)] I (cr_rf τ) 247
  refine cr_if_ne h (tgt := 15) (by decide) dX9_write_9 (fun c1 => ?_) (fun c1 => ?_)
  · have hyp := hyp.1 c1
    refine cr_aload_n h (j := 0) rfl rfl dX9_write_15 ?_
    refine cr_getI h (k := 5) cr_clsX9 (by decide) rfl rfl wf_X9_170 (by decide) rfl dX9_write_16 ?_
    refine cr_iload_n h (j := 3) rfl rfl dX9_write_19 ?_
    refine cr_iadd h dX9_write_20 ?_
    refine cr_sipush h (v := (160 : Int32)) (by decide) dX9_write_21 ?_
    refine cr_icmp_le h (tgt := 30) (by decide) dX9_write_24 (fun c2 => ?_) (fun c2 => ?_)
    · have hyp := hyp.1 c2
      refine cr_iconst h (v := (0 : Int32)) (by decide) dX9_write_30 ?_
      refine cr_istore h (by decide) rfl dX9_write_31 ?_
      show cr_V Γ 33 [.ref 200, .long x1, .null, .int x3, .int (0 : Int32)] [] I (cr_rf τ) 247
      exact cr_weak [true, true, false, true, true] hyp
    · have hyp := hyp.2 c2
      refine cr_bipush h (v := (-5 : Int32)) (by decide) dX9_write_27 ?_
      refine cr_iret h rfl rfl rfl dX9_write_29 ?_
      exact hyp
  · have hyp := hyp.2 c1
    refine cr_bipush h (v := (-3 : Int32)) (by decide) dX9_write_12 ?_
    refine cr_iret h rfl rfl rfl dX9_write_14 ?_
    exact hyp
theorem bk_yX9_write_33 {Γ : cr_G} {K : cr_K} {τ : Nat → Nat} {I : cr_I} {x1 : Int64} {x3 : Int32} {x4 : Int32} (hτ : cr_tau τ)  (h : cr_Ok yX9_write cX9_write 5 (some .int) (cr_rm0 1 25) K 247 247 Γ) (hyp : (x3 ≤ x4 → K (some (.int (I 200 5))) I (cr_rf τ)) ∧ (¬ x3 ≤ x4 → ((0 ≤ (I 200 5).toInt ∧ (I 200 5).toInt < 160) ∧ (∀ J1 : cr_I, J1 = cr_up I 205 ((I 200 5).toNatClampNeg) (((x1 >>> (((8 : Int32) * x4).toInt64 &&& 63)) &&& (255 : Int64)).toInt32) → (∀ J2 : cr_I, J2 = cr_up J1 200 5 ((J1 200 5) + (1 : Int32)) → (∀ v1 : Int32, v1 = x4 + (1 : Int32) → cr_V Γ 33 [.ref 200, .long x1, .null, .int x3, .int v1] [] J2 (cr_rf τ) 247)))))) : cr_V Γ 33 [.ref 200, .long x1, .null, .int x3, .int x4] [] I (cr_rf τ) 247 := by
  refine cr_iload h rfl dX9_write_33 ?_
  refine cr_iload_n h (j := 3) rfl rfl dX9_write_35 ?_
  refine cr_icmp_ge h (tgt := 76) (by decide) dX9_write_36 (fun c3 => ?_) (fun c3 => ?_)
  · have hyp := hyp.1 c3
    refine cr_aload_n h (j := 0) rfl rfl dX9_write_76 ?_
    refine cr_getI h (k := 5) cr_clsX9 (by decide) rfl rfl wf_X9_170 (by decide) rfl dX9_write_77 ?_
    refine cr_iret h rfl rfl rfl dX9_write_80 ?_
    exact hyp
  · have hyp := hyp.2 c3
    refine cr_aload_n h (j := 0) rfl rfl dX9_write_39 ?_
    refine cr_getR h (k := 4) cr_clsX9 (by decide) rfl rfl wf_X9_22 (by decide) rfl rfl dX9_write_40 ?_
    refine cr_aload_n h (j := 0) rfl rfl dX9_write_43 ?_
    refine cr_getI h (k := 5) cr_clsX9 (by decide) rfl rfl wf_X9_170 (by decide) rfl dX9_write_44 ?_
    refine cr_lload_n h (j := 1) rfl rfl dX9_write_47 ?_
    refine cr_bipush h (v := (8 : Int32)) (by decide) dX9_write_48 ?_
    refine cr_iload h rfl dX9_write_50 ?_
    refine cr_imul h dX9_write_52 ?_
    refine cr_lshr h dX9_write_53 ?_
    refine cr_ldc2 h wc_X9_173 dX9_write_54 ?_
    refine cr_land h dX9_write_57 ?_
    refine cr_l2i h dX9_write_58 ?_
    refine cs_ist h (by decide) (by decide) rfl hyp.1 (q := (I 200 5).toNatClampNeg) rfl dX9_write_59 (fun J1 eJ1 => ?_)
    have hyp := hyp.2 J1 eJ1
    refine cr_aload_n h (j := 0) rfl rfl dX9_write_60 ?_
    refine cr_dup h rfl dX9_write_61 ?_
    refine cr_getI h (k := 5) cr_clsX9 (by decide) rfl rfl wf_X9_170 (by decide) rfl dX9_write_62 ?_
    refine cr_iconst h (v := (1 : Int32)) (by decide) dX9_write_65 ?_
    refine cr_iadd h dX9_write_66 ?_
    refine cs_put h (k := 5) cr_clsX9 (by decide) rfl rfl rfl rfl wf_X9_170 (by decide) (by decide) rfl dX9_write_67 (fun J2 eJ2 => ?_)
    have hyp := hyp J2 eJ2
    refine cs_inc h (v := (1 : Int32)) 4 rfl (by decide) (by decide) rfl dX9_write_70 (fun v1 ev1 => ?_)
    have hyp := hyp v1 ev1
    show cr_V Γ 73 [.ref 200, .long x1, .null, .int x3, .int v1] [] J2 (cr_rf τ) 247
    refine cr_goto h (tgt := 33) (by decide) dX9_write_73 ?_
    exact cr_weak [true, true, false, true, true] hyp
abbrev T_yX9_write : cr_T := fun vs I R K => ∃ (τ : Nat → Nat) (x1 : Int64) (x3 : Int32), R = cr_rf τ ∧ cr_tau τ ∧ vs = [.ref 200, .long x1, .int x3] ∧ p_yX9_write τ x1 x3 I ∧ ∀ (r : Int32) J, q_yX9_write τ x1 x3 I r J → K (some (.int r)) J (cr_rf τ)
abbrev S_yX9_write : Prop := cr_C yX9_write cX9_write 5 (some .int) (cr_rm0 1 25) 247 247 T_yX9_write
theorem G_yX9_write (H : ∀ (Γ : cr_G) (K : cr_K) (τ : Nat → Nat) (x1 : Int64) (x3 : Int32) (I : cr_I), cr_tau τ → cr_Ok yX9_write cX9_write 5 (some .int) (cr_rm0 1 25) K 247 247 Γ → p_yX9_write τ x1 x3 I → (∀ (r : Int32) J, q_yX9_write τ x1 x3 I r J → K (some (.int r)) J (cr_rf τ)) → cr_V Γ 0 [.ref 200, .long x1, .null, .int x3, .null] [] I (cr_rf τ) 247) : cr_C yX9_write cX9_write 5 (some .int) (cr_rm0 1 25) 247 247 T_yX9_write := by
  refine cr_C.of (by decide +kernel) (fun vs I R K hT => ?_) (fun Γ K h vs I R hT => ?_)
  · obtain ⟨τ, x1, x3, rfl, hτ, rfl, hp, hK⟩ := hT
    exact Nat.le_of_ble_eq_true rfl
  · obtain ⟨τ, x1, x3, rfl, hτ, rfl, hp, hK⟩ := hT
    exact H Γ K τ x1 x3 I hτ h hp hK
theorem C_yX8_write : S_yX8_write := G_yX8_write (by
  intro Γ K τ x1 x3 I hτ h hp hK
  obtain ⟨eL, hLN⟩ := cr_ofI (B := 160) hp.1 hp.2
  have eL' : I 1 1 = nI (cr_tL I) := eL
  have hLN' : cr_tL I ≤ 160 := hLN
  unfold q_yX8_write at hK
  generalize cr_tL I = L at *
  refine bk_yX8_write_0 hτ h ?_
  have a1 : (1 : Int32).toInt = 1 := rfl
  have a8 : (8 : Int32).toInt = 8 := rfl
  rw [cr_out0, a1, a8]
  refine ⟨fun c => ?_, fun c => hK _ _ (Or.inl ⟨c, rfl, rfl⟩)⟩
  obtain ⟨en, hn⟩ := cr_ofI (x := x3) (B := 8) (by omega) (by omega)
  have hn1 : 1 ≤ x3.toNatClampNeg := by show 1 ≤ x3.toInt.toNat; omega
  generalize x3.toNatClampNeg = n at *
  have ele : (I 1 1 + x3 ≤ 160) ↔ L + n ≤ 160 := by
    rw [eL', en, nI_add]
    exact cr_nlq (b := 160) (by omega) (by omega)
  rw [ele, en]
  refine ⟨fun d => ?_, fun d => hK _ _ (Or.inr ⟨c, Or.inl ⟨by omega, rfl, rfl⟩⟩)⟩
  refine cr_loop (fun k => ∀ J, J 1 1 = nI (L + k) → J 2 = cr_wrS (I 2) L k x1 → cr_F cr_PW I J → cr_V Γ 34 [.ref 0, .long x1, .null, .int (nI n), .int (nI k)] [] J (cr_rf τ) 247) n ?_ ?_ 0 (Nat.zero_le _) I eL' cr_wrS_0.symm cr_F.rf
  · intro J e1 e2 hf
    refine bk_yX8_write_34 hτ h ⟨fun _ => ?_, fun z => absurd (Int32.le_refl _) z⟩
    rw [e1]
    exact hK _ _ (Or.inr ⟨c, Or.inr ⟨d, rfl, e1, e2, hf⟩⟩)
  · intro k hk ih J e1 e2 hf
    refine bk_yX8_write_34 hτ h ⟨fun z => absurd z (cr_nle hk (by omega)), fun _ => ?_⟩
    refine ⟨fun z => absurd z (by rw [e1]; exact nI_ge (a := L + k) (b := 160) (by omega) (by omega)), fun _ => ?_⟩
    rw [e1, cr_nc (show L + k < 100000 by omega)]
    refine ⟨cr_ix (by omega) (by omega), ?_⟩
    rintro J1 rfl J2 rfl v rfl
    rw [nI_1, cr_up_b (show (1 : Nat) ≠ 2 by decide), e1, nI_1]
    refine ih _ cr_up_s ?_ ((hf.up (by unfold cr_PW; omega)).up (by unfold cr_PW; omega))
    rw [cr_up_row_ne (by decide), cr_up_row, e2]
    exact cr_wrS_1)
theorem C_yX9_write : S_yX9_write := G_yX9_write (by
  intro Γ K τ x1 x3 I hτ h hp hK
  obtain ⟨eL, hLN⟩ := cr_ofI (B := 160) hp.1 hp.2
  have eL' : I 200 5 = nI (cr_mL I) := eL
  have hLN' : cr_mL I ≤ 160 := hLN
  unfold q_yX9_write at hK
  generalize cr_mL I = L at *
  refine bk_yX9_write_0 hτ h ?_
  have a1 : (1 : Int64).toInt = 1 := rfl
  have a8 : (8 : Int64).toInt = 8 := rfl
  rw [cr_in0, Int32.toInt_toInt64, a1, a8]
  refine ⟨fun c => ?_, fun c => hK _ _ (Or.inl ⟨c, rfl, rfl⟩)⟩
  rw [Classical.not_not] at c
  obtain ⟨en, hn⟩ := cr_ofI (x := x3) (B := 8) (by omega) (by omega)
  have hn1 : 1 ≤ x3.toNatClampNeg := by show 1 ≤ x3.toInt.toNat; omega
  generalize x3.toNatClampNeg = n at *
  have ele : (I 200 5 + x3 ≤ 160) ↔ L + n ≤ 160 := by
    rw [eL', en, nI_add]
    exact cr_nlq (b := 160) (by omega) (by omega)
  rw [ele, en]
  refine ⟨fun d => ?_, fun d => hK _ _ (Or.inr ⟨c, Or.inl ⟨by omega, rfl, rfl⟩⟩)⟩
  refine cr_loop (fun k => ∀ J, J 200 5 = nI (L + k) → J 205 = cr_wrS (I 205) L k x1 → cr_F cr_PmW I J → cr_V Γ 33 [.ref 200, .long x1, .null, .int (nI n), .int (nI k)] [] J (cr_rf τ) 247) n ?_ ?_ 0 (Nat.zero_le _) I eL' cr_wrS_0.symm cr_F.rf
  · intro J e1 e2 hf
    refine bk_yX9_write_33 hτ h ⟨fun _ => ?_, fun z => absurd (Int32.le_refl _) z⟩
    rw [e1]
    exact hK _ _ (Or.inr ⟨c, Or.inr ⟨d, rfl, e1, e2, hf⟩⟩)
  · intro k hk ih J e1 e2 hf
    refine bk_yX9_write_33 hτ h ⟨fun z => absurd z (cr_nle hk (by omega)), fun _ => ?_⟩
    skip
    rw [e1, cr_nc (show L + k < 100000 by omega)]
    refine ⟨cr_ix (by omega) (by omega), ?_⟩
    rintro J1 rfl J2 rfl v rfl
    rw [nI_1, cr_up_b (show (200 : Nat) ≠ 205 by decide), e1, nI_1]
    refine ih _ cr_up_s ?_ ((hf.up (by unfold cr_PmW; omega)).up (by unfold cr_PmW; omega))
    rw [cr_up_row_ne (by decide), cr_up_row, e2]
    exact cr_wrS_1)
def cr_mkS (x : Int32) (i : Nat) : Int32 := (x >>> (((2 : Int32) * nI i) &&& 31)) &&& (3 : Int32)
def cr_PR (b k : Nat) : Prop := (b = 27 ∧ k = 1) ∨ b = 129
def cr_PmR (b k : Nat) : Prop := (b = 200 ∧ k = 13) ∨ b = 213
def p_yX8_row (τ : Nat → Nat) (x1 x2 : Int32) (I : cr_I) : Prop := True
def q_yX8_row (τ : Nat → Nat) (x1 x2 : Int32) (I : cr_I) (r : Int32) (J : cr_I) : Prop := (¬ (1 ≤ x2.toInt ∧ x2.toInt ≤ 6) ∧ r = -3 ∧ J = I) ∨ ((1 ≤ x2.toInt ∧ x2.toInt ≤ 6) ∧ r = 1 ∧ J 27 1 = x2 ∧ (∀ i, J 129 i = if i < x2.toNatClampNeg then cr_mkS x1 i else I 129 i) ∧ cr_F cr_PR I J)
def p_yX9_row (τ : Nat → Nat) (x1 x2 : Int32) (I : cr_I) : Prop := True
def q_yX9_row (τ : Nat → Nat) (x1 x2 : Int32) (I : cr_I) (r : Int32) (J : cr_I) : Prop := (¬ (1 ≤ x2.toInt ∧ x2.toInt ≤ 6) ∧ r = -3 ∧ J = I) ∨ ((1 ≤ x2.toInt ∧ x2.toInt ≤ 6) ∧ r = 1 ∧ J 200 13 = x2 ∧ (∀ i, J 213 i = if i < x2.toNatClampNeg then cr_mkS x1 i else I 213 i) ∧ cr_F cr_PmR I J)
theorem bk_yX8_row_0 {Γ : cr_G} {K : cr_K} {τ : Nat → Nat} {I : cr_I} {x1 : Int32} {x2 : Int32} (hτ : cr_tau τ)  (h : cr_Ok yX8_row cX8_row 4 (some .int) (cr_rm0 1 22) K 247 247 Γ) (hyp : ((f_yX8_isOutside τ x2 (1 : Int32) (6 : Int32) I) = 0 → (∀ J1 : cr_I, J1 = cr_up I 27 1 x2 → cr_V Γ 23 [.ref 0, .int x1, .int x2, .int (0 : Int32)] [] J1 (cr_rf τ) 247)) ∧ (¬ (f_yX8_isOutside τ x2 (1 : Int32) (6 : Int32) I) = 0 → K (some (.int (-3 : Int32))) I (cr_rf τ))) : cr_V Γ 0 [.ref 0, .int x1, .int x2, .null] [] I (cr_rf τ) 247 := by
  refine cr_iload_n h (j := 2) rfl rfl dX8_row_0 ?_
  refine cr_iconst h (v := (1 : Int32)) (by decide) dX8_row_1 ?_
  refine cr_bipush h (v := (6 : Int32)) (by decide) dX8_row_2 ?_
  refine cr_callS h C_yX8_isOutside cZ_yX8_isOutside wm_X8_55 ws_yX8_isOutside (cr_rmS (by decide) (by decide)) (As := [.int x2, .int (1 : Int32), .int (6 : Int32)]) rfl (Nat.le_of_ble_eq_true rfl) dX8_row_4 ⟨τ, x2, (1 : Int32), (6 : Int32), rfl, hτ, rfl, ?_⟩
  show cr_V Γ 7 [.ref 0, .int x1, .int x2, .null] [.int (f_yX8_isOutside τ x2 (1 : Int32) (6 : Int32) I)] I (cr_rf τ) 247
  refine cr_if_eq h (tgt := 13) (by decide) dX8_row_7 (fun c1 => ?_) (fun c1 => ?_)
  · have hyp := hyp.1 c1
    refine cr_aload_n h (j := 0) rfl rfl dX8_row_13 ?_
    refine cr_getR h (k := 1) cr_clsX8 (by decide) rfl rfl wf_X8_19 (by decide) rfl rfl dX8_row_14 ?_
    refine cr_iload_n h (j := 2) rfl rfl dX8_row_17 ?_
    refine cs_put h (k := 1) cr_clsX3 (by decide) rfl rfl rfl rfl wf_X8_103 (by decide) (by decide) rfl dX8_row_18 (fun J1 eJ1 => ?_)
    have hyp := hyp J1 eJ1
    refine cr_iconst h (v := (0 : Int32)) (by decide) dX8_row_21 ?_
    refine cr_istore_n h (j := 3) rfl (by decide) rfl dX8_row_22 ?_
    show cr_V Γ 23 [.ref 0, .int x1, .int x2, .int (0 : Int32)] [] J1 (cr_rf τ) 247
    exact cr_weak [true, true, true, true] hyp
  · have hyp := hyp.2 c1
    refine cr_bipush h (v := (-3 : Int32)) (by decide) dX8_row_10 ?_
    refine cr_iret h rfl rfl rfl dX8_row_12 ?_
    exact hyp
theorem bk_yX8_row_23 {Γ : cr_G} {K : cr_K} {τ : Nat → Nat} {I : cr_I} {x1 : Int32} {x2 : Int32} {x3 : Int32} (hτ : cr_tau τ)  (h : cr_Ok yX8_row cX8_row 4 (some .int) (cr_rm0 1 22) K 247 247 Γ) (hyp : (x2 ≤ x3 → K (some (.int (1 : Int32))) I (cr_rf τ)) ∧ (¬ x2 ≤ x3 → ((0 ≤ x3.toInt ∧ x3.toInt < 6) ∧ (∀ J2 : cr_I, J2 = cr_up I 129 x3.toNatClampNeg ((x1 >>> (((2 : Int32) * x3) &&& 31)) &&& (3 : Int32)) → (∀ v1 : Int32, v1 = x3 + (1 : Int32) → cr_V Γ 23 [.ref 0, .int x1, .int x2, .int v1] [] J2 (cr_rf τ) 247))))) : cr_V Γ 23 [.ref 0, .int x1, .int x2, .int x3] [] I (cr_rf τ) 247 := by
  refine cr_iload_n h (j := 3) rfl rfl dX8_row_23 ?_
  refine cr_iload_n h (j := 2) rfl rfl dX8_row_24 ?_
  refine cr_icmp_ge h (tgt := 50) (by decide) dX8_row_25 (fun c2 => ?_) (fun c2 => ?_)
  · have hyp := hyp.1 c2
    refine cr_iconst h (v := (1 : Int32)) (by decide) dX8_row_50 ?_
    refine cr_iret h rfl rfl rfl dX8_row_51 ?_
    exact hyp
  · have hyp := hyp.2 c2
    refine cr_aload_n h (j := 0) rfl rfl dX8_row_28 ?_
    refine cr_getR h (k := 1) cr_clsX8 (by decide) rfl rfl wf_X8_19 (by decide) rfl rfl dX8_row_29 ?_
    refine cr_getR h (k := 2) cr_clsX3 (by decide) rfl rfl wf_X8_106 (by decide) rfl rfl dX8_row_32 ?_
    refine cr_iload_n h (j := 3) rfl rfl dX8_row_35 ?_
    refine cr_iload_n h (j := 1) rfl rfl dX8_row_36 ?_
    refine cr_iconst h (v := (2 : Int32)) (by decide) dX8_row_37 ?_
    refine cr_iload_n h (j := 3) rfl rfl dX8_row_38 ?_
    refine cr_imul h dX8_row_39 ?_
    refine cr_ishr h dX8_row_40 ?_
    refine cr_iconst h (v := (3 : Int32)) (by decide) dX8_row_41 ?_
    refine cr_iand h dX8_row_42 ?_
    refine cs_ist h (by decide) (by decide) rfl hyp.1 (q := x3.toNatClampNeg) rfl dX8_row_43 (fun J2 eJ2 => ?_)
    have hyp := hyp.2 J2 eJ2
    refine cs_inc h (v := (1 : Int32)) 3 rfl (by decide) (by decide) rfl dX8_row_44 (fun v1 ev1 => ?_)
    have hyp := hyp v1 ev1
    show cr_V Γ 47 [.ref 0, .int x1, .int x2, .int v1] [] J2 (cr_rf τ) 247
    refine cr_goto h (tgt := 23) (by decide) dX8_row_47 ?_
    exact cr_weak [true, true, true, true] hyp
abbrev T_yX8_row : cr_T := fun vs I R K => ∃ (τ : Nat → Nat) (x1 : Int32) (x2 : Int32), R = cr_rf τ ∧ cr_tau τ ∧ vs = [.ref 0, .int x1, .int x2] ∧ p_yX8_row τ x1 x2 I ∧ ∀ (r : Int32) J, q_yX8_row τ x1 x2 I r J → K (some (.int r)) J (cr_rf τ)
abbrev S_yX8_row : Prop := cr_C yX8_row cX8_row 4 (some .int) (cr_rm0 1 22) 247 247 T_yX8_row
theorem G_yX8_row (H : ∀ (Γ : cr_G) (K : cr_K) (τ : Nat → Nat) (x1 : Int32) (x2 : Int32) (I : cr_I), cr_tau τ → cr_Ok yX8_row cX8_row 4 (some .int) (cr_rm0 1 22) K 247 247 Γ → p_yX8_row τ x1 x2 I → (∀ (r : Int32) J, q_yX8_row τ x1 x2 I r J → K (some (.int r)) J (cr_rf τ)) → cr_V Γ 0 [.ref 0, .int x1, .int x2, .null] [] I (cr_rf τ) 247) : cr_C yX8_row cX8_row 4 (some .int) (cr_rm0 1 22) 247 247 T_yX8_row := by
  refine cr_C.of (by decide +kernel) (fun vs I R K hT => ?_) (fun Γ K h vs I R hT => ?_)
  · obtain ⟨τ, x1, x2, rfl, hτ, rfl, hp, hK⟩ := hT
    exact Nat.le_of_ble_eq_true rfl
  · obtain ⟨τ, x1, x2, rfl, hτ, rfl, hp, hK⟩ := hT
    exact H Γ K τ x1 x2 I hτ h hp hK
theorem bk_yX9_row_0 {Γ : cr_G} {K : cr_K} {τ : Nat → Nat} {I : cr_I} {x1 : Int32} {x2 : Int32} (hτ : cr_tau τ)  (h : cr_Ok yX9_row cX9_row 4 (some .int) (cr_rm0 1 25) K 247 247 Γ) (hyp : (¬ (f_yX9_in τ x2.toInt64 (1 : Int64) (6 : Int64) I) = 0 → (∀ J1 : cr_I, J1 = cr_up I 200 13 x2 → cr_V Γ 22 [.ref 200, .int x1, .int x2, .int (0 : Int32)] [] J1 (cr_rf τ) 247)) ∧ ((f_yX9_in τ x2.toInt64 (1 : Int64) (6 : Int64) I) = 0 → K (some (.int (-3 : Int32))) I (cr_rf τ))) : cr_V Γ 0 [.ref 200, .int x1, .int x2, .null] [] I (cr_rf τ) 247 := by
  refine cr_iload_n h (j := 2) rfl rfl dX9_row_0 ?_
  refine cr_i2l h dX9_row_1 ?_
  refine cr_lconst h (v := (1 : Int64)) (by decide) dX9_row_2 ?_
  refine cr_ldc2 h wc_X9_246 dX9_row_3 ?_
  refine cr_callS h C_yX9_in cZ_yX9_in wm_X9_154 ws_yX9_in (cr_rmS (by decide) (by decide)) (As := [.long x2.toInt64, .long (1 : Int64), .long (6 : Int64)]) rfl (Nat.le_of_ble_eq_true rfl) dX9_row_6 ⟨τ, x2.toInt64, (1 : Int64), (6 : Int64), rfl, hτ, rfl, ?_⟩
  show cr_V Γ 9 [.ref 200, .int x1, .int x2, .null] [.int (f_yX9_in τ x2.toInt64 (1 : Int64) (6 : Int64) I)] I (cr_rf τ) 247
  refine cr_if_ne h (tgt := 15) (by decide) dX9_row_9 (fun c1 => ?_) (fun c1 => ?_)
  · have hyp := hyp.1 c1
    refine cr_aload_n h (j := 0) rfl rfl dX9_row_15 ?_
    refine cr_iload_n h (j := 2) rfl rfl dX9_row_16 ?_
    refine cs_put h (k := 13) cr_clsX9 (by decide) rfl rfl rfl rfl wf_X9_46 (by decide) (by decide) rfl dX9_row_17 (fun J1 eJ1 => ?_)
    have hyp := hyp J1 eJ1
    refine cr_iconst h (v := (0 : Int32)) (by decide) dX9_row_20 ?_
    refine cr_istore_n h (j := 3) rfl (by decide) rfl dX9_row_21 ?_
    show cr_V Γ 22 [.ref 200, .int x1, .int x2, .int (0 : Int32)] [] J1 (cr_rf τ) 247
    exact cr_weak [true, true, true, true] hyp
  · have hyp := hyp.2 c1
    refine cr_bipush h (v := (-3 : Int32)) (by decide) dX9_row_12 ?_
    refine cr_iret h rfl rfl rfl dX9_row_14 ?_
    exact hyp
theorem bk_yX9_row_22 {Γ : cr_G} {K : cr_K} {τ : Nat → Nat} {I : cr_I} {x1 : Int32} {x2 : Int32} {x3 : Int32} (hτ : cr_tau τ)  (h : cr_Ok yX9_row cX9_row 4 (some .int) (cr_rm0 1 25) K 247 247 Γ) (hyp : (x2 ≤ x3 → K (some (.int (1 : Int32))) I (cr_rf τ)) ∧ (¬ x2 ≤ x3 → ((0 ≤ x3.toInt ∧ x3.toInt < 6) ∧ (∀ J2 : cr_I, J2 = cr_up I 213 x3.toNatClampNeg ((x1 >>> (((2 : Int32) * x3) &&& 31)) &&& (3 : Int32)) → (∀ v1 : Int32, v1 = x3 + (1 : Int32) → cr_V Γ 22 [.ref 200, .int x1, .int x2, .int v1] [] J2 (cr_rf τ) 247))))) : cr_V Γ 22 [.ref 200, .int x1, .int x2, .int x3] [] I (cr_rf τ) 247 := by
  refine cr_iload_n h (j := 3) rfl rfl dX9_row_22 ?_
  refine cr_iload_n h (j := 2) rfl rfl dX9_row_23 ?_
  refine cr_icmp_ge h (tgt := 46) (by decide) dX9_row_24 (fun c2 => ?_) (fun c2 => ?_)
  · have hyp := hyp.1 c2
    refine cr_iconst h (v := (1 : Int32)) (by decide) dX9_row_46 ?_
    refine cr_iret h rfl rfl rfl dX9_row_47 ?_
    exact hyp
  · have hyp := hyp.2 c2
    refine cr_aload_n h (j := 0) rfl rfl dX9_row_27 ?_
    refine cr_getR h (k := 14) cr_clsX9 (by decide) rfl rfl wf_X9_50 (by decide) rfl rfl dX9_row_28 ?_
    refine cr_iload_n h (j := 3) rfl rfl dX9_row_31 ?_
    refine cr_iload_n h (j := 1) rfl rfl dX9_row_32 ?_
    refine cr_iconst h (v := (2 : Int32)) (by decide) dX9_row_33 ?_
    refine cr_iload_n h (j := 3) rfl rfl dX9_row_34 ?_
    refine cr_imul h dX9_row_35 ?_
    refine cr_ishr h dX9_row_36 ?_
    refine cr_iconst h (v := (3 : Int32)) (by decide) dX9_row_37 ?_
    refine cr_iand h dX9_row_38 ?_
    refine cs_ist h (by decide) (by decide) rfl hyp.1 (q := x3.toNatClampNeg) rfl dX9_row_39 (fun J2 eJ2 => ?_)
    have hyp := hyp.2 J2 eJ2
    refine cs_inc h (v := (1 : Int32)) 3 rfl (by decide) (by decide) rfl dX9_row_40 (fun v1 ev1 => ?_)
    have hyp := hyp v1 ev1
    show cr_V Γ 43 [.ref 200, .int x1, .int x2, .int v1] [] J2 (cr_rf τ) 247
    refine cr_goto h (tgt := 22) (by decide) dX9_row_43 ?_
    exact cr_weak [true, true, true, true] hyp
abbrev T_yX9_row : cr_T := fun vs I R K => ∃ (τ : Nat → Nat) (x1 : Int32) (x2 : Int32), R = cr_rf τ ∧ cr_tau τ ∧ vs = [.ref 200, .int x1, .int x2] ∧ p_yX9_row τ x1 x2 I ∧ ∀ (r : Int32) J, q_yX9_row τ x1 x2 I r J → K (some (.int r)) J (cr_rf τ)
abbrev S_yX9_row : Prop := cr_C yX9_row cX9_row 4 (some .int) (cr_rm0 1 25) 247 247 T_yX9_row
theorem G_yX9_row (H : ∀ (Γ : cr_G) (K : cr_K) (τ : Nat → Nat) (x1 : Int32) (x2 : Int32) (I : cr_I), cr_tau τ → cr_Ok yX9_row cX9_row 4 (some .int) (cr_rm0 1 25) K 247 247 Γ → p_yX9_row τ x1 x2 I → (∀ (r : Int32) J, q_yX9_row τ x1 x2 I r J → K (some (.int r)) J (cr_rf τ)) → cr_V Γ 0 [.ref 200, .int x1, .int x2, .null] [] I (cr_rf τ) 247) : cr_C yX9_row cX9_row 4 (some .int) (cr_rm0 1 25) 247 247 T_yX9_row := by
  refine cr_C.of (by decide +kernel) (fun vs I R K hT => ?_) (fun Γ K h vs I R hT => ?_)
  · obtain ⟨τ, x1, x2, rfl, hτ, rfl, hp, hK⟩ := hT
    exact Nat.le_of_ble_eq_true rfl
  · obtain ⟨τ, x1, x2, rfl, hτ, rfl, hp, hK⟩ := hT
    exact H Γ K τ x1 x2 I hτ h hp hK
theorem C_yX8_row : S_yX8_row := G_yX8_row (by
  intro Γ K τ x1 x2 I hτ h hp hK
  unfold q_yX8_row at hK
  refine bk_yX8_row_0 hτ h ?_
  have a1 : (1 : Int32).toInt = 1 := rfl
  have a8 : (6 : Int32).toInt = 6 := rfl
  rw [cr_out0, a1, a8]
  refine ⟨fun c => ?_, fun c => hK _ _ (Or.inl ⟨c, rfl, rfl⟩)⟩
  obtain ⟨en, hn⟩ := cr_ofI (x := x2) (B := 6) (by omega) (by omega)
  generalize x2.toNatClampNeg = n at *
  rintro J1 rfl
  rw [en]
  refine cr_loop (fun k => ∀ J, J 27 1 = nI n → (∀ i, J 129 i = if i < k then cr_mkS x1 i else I 129 i) → cr_F cr_PR I J → cr_V Γ 23 [.ref 0, .int x1, .int (nI n), .int (nI k)] [] J (cr_rf τ) 247) n ?_ ?_ 0 (Nat.zero_le _) _ cr_up_s (fun i => ?_) (cr_F.rf.up (by unfold cr_PR; omega))
  · intro J e1 e2 hf
    refine bk_yX8_row_23 hτ h ⟨fun _ => ?_, fun z => absurd (Int32.le_refl _) z⟩
    exact hK _ _ (Or.inr ⟨c, rfl, e1.trans en.symm, e2, hf⟩)
  · intro k hk ih J e1 e2 hf
    refine bk_yX8_row_23 hτ h ⟨fun z => absurd z (cr_nle hk (by omega)), fun _ => ?_⟩
    rw [cr_nc (show k < 100000 by omega)]
    refine ⟨cr_ix (by omega) (by omega), ?_⟩
    rintro J2 rfl v rfl
    rw [nI_1]
    refine ih _ (by rw [cr_up_b (by decide)]; exact e1) (fun i => ?_) (hf.up (by unfold cr_PR; omega))
    by_cases e : i = k
    · rw [e, cr_up_s, if_pos (by omega)]
      rfl
    · rw [cr_up_k e, e2]
      by_cases q : i < k
      · rw [if_pos q, if_pos (by omega)]
      · rw [if_neg q, if_neg (by omega)]
  · rw [if_neg (Nat.not_lt_zero _), cr_up_b (by decide)])
theorem C_yX9_row : S_yX9_row := G_yX9_row (by
  intro Γ K τ x1 x2 I hτ h hp hK
  unfold q_yX9_row at hK
  refine bk_yX9_row_0 hτ h ?_
  have a1 : (1 : Int64).toInt = 1 := rfl
  have a8 : (6 : Int64).toInt = 6 := rfl
  rw [cr_in0, Int32.toInt_toInt64, a1, a8]
  refine ⟨fun c => ?_, fun c => hK _ _ (Or.inl ⟨c, rfl, rfl⟩)⟩
  rw [Classical.not_not] at c
  obtain ⟨en, hn⟩ := cr_ofI (x := x2) (B := 6) (by omega) (by omega)
  generalize x2.toNatClampNeg = n at *
  rintro J1 rfl
  rw [en]
  refine cr_loop (fun k => ∀ J, J 200 13 = nI n → (∀ i, J 213 i = if i < k then cr_mkS x1 i else I 213 i) → cr_F cr_PmR I J → cr_V Γ 22 [.ref 200, .int x1, .int (nI n), .int (nI k)] [] J (cr_rf τ) 247) n ?_ ?_ 0 (Nat.zero_le _) _ cr_up_s (fun i => ?_) (cr_F.rf.up (by unfold cr_PmR; omega))
  · intro J e1 e2 hf
    refine bk_yX9_row_22 hτ h ⟨fun _ => ?_, fun z => absurd (Int32.le_refl _) z⟩
    exact hK _ _ (Or.inr ⟨c, rfl, e1.trans en.symm, e2, hf⟩)
  · intro k hk ih J e1 e2 hf
    refine bk_yX9_row_22 hτ h ⟨fun z => absurd z (cr_nle hk (by omega)), fun _ => ?_⟩
    rw [cr_nc (show k < 100000 by omega)]
    refine ⟨cr_ix (by omega) (by omega), ?_⟩
    rintro J2 rfl v rfl
    rw [nI_1]
    refine ih _ (by rw [cr_up_b (by decide)]; exact e1) (fun i => ?_) (hf.up (by unfold cr_PmR; omega))
    by_cases e : i = k
    · rw [e, cr_up_s, if_pos (by omega)]
      rfl
    · rw [cr_up_k e, e2]
      by_cases q : i < k
      · rw [if_pos q, if_pos (by omega)]
      · rw [if_neg q, if_neg (by omega)]
  · rw [if_neg (Nat.not_lt_zero _), cr_up_b (by decide)])
def t_yX8_fault (τ : Nat → Nat) (I : cr_I) (Q : Int32 → cr_I → Prop) : Prop := p_yX7_parse τ I ∧ (∀ (r1 : Int32) (J1 : cr_I), q_yX7_parse τ I r1 J1 → Q r1 J1)
abbrev T_yX8_fault : cr_T := fun vs I R K => ∃ (τ : Nat → Nat) (Q : Int32 → cr_I → Prop), R = cr_rf τ ∧ cr_tau τ ∧ vs = [.ref 0] ∧ t_yX8_fault τ I Q ∧ ∀ r J, Q r J → K (some (.int r)) J (cr_rf τ)
theorem C_yX8_fault : cr_C yX8_fault cX8_fault 1 (some .int) (cr_rm0 9 194) 247 247 T_yX8_fault := by
  refine cr_C.of (by decide +kernel) (fun vs I R K hT => ?_) (fun Γ K h vs I R hT => ?_)
  · obtain ⟨τ, Q, rfl, hτ, rfl, hyp, hK⟩ := hT
    exact Nat.le_of_ble_eq_true rfl
  · obtain ⟨τ, Q, rfl, hτ, rfl, hyp, hK⟩ := hT
    unfold t_yX8_fault at hyp
    show cr_V Γ 0 [.ref 0] [] I (cr_rf τ) 247
    refine cr_aload_n h (j := 0) rfl rfl dX8_fault_0 ?_
    refine cr_getR h (k := 0) cr_clsX8 (by decide) rfl rfl wf_X8_10 (by decide) rfl rfl dX8_fault_1 ?_
    refine cr_callV h (c0 := 7) (T0 := TX7) C_yX7_parse cZ_yX7_parse wm_X8_87 wv_yX7_parse we_yX7_parse (by decide) rfl rfl (cr_rmS (by decide) (by decide)) (As := []) rfl (Nat.le_of_ble_eq_true rfl) dX8_fault_4 ⟨τ, rfl, hτ, rfl, hyp.1, fun r1 J1 q1 => ?_⟩
    have hyp := hyp.2 r1 J1 q1
    show cr_V Γ 7 [.ref 0] [.int r1] J1 (cr_rf τ) 247
    refine cr_iret h rfl rfl rfl dX8_fault_7 ?_
    exact hK _ _ hyp
/-! the class: the two tables change places -/
def cr_swp (τ : Nat → Nat) (m : Nat) : Nat → Nat := fun j => if j = 4 then τ m else if j = m then τ 4 else τ j
theorem cr_swp_tau {τ : Nat → Nat} {m : Nat} (h : cr_tau τ) (hm : m < 4) : cr_tau (cr_swp τ m) := by
  refine ⟨fun j hj => ?_, fun i j hi hj e => ?_⟩
  · unfold cr_swp
    split
    · exact h.1 m (by omega)
    · split
      · exact h.1 4 (by decide)
      · exact h.1 j hj
  · unfold cr_swp at e
    by_cases i4 : i = 4
    · rw [if_pos i4] at e
      by_cases j4 : j = 4
      · omega
      · rw [if_neg j4] at e
        by_cases jm : j = m
        · rw [if_pos jm] at e
          have := h.2 m 4 (by omega) (by omega) e
          omega
        · rw [if_neg jm] at e
          have := h.2 m j (by omega) (by omega) e
          omega
    · rw [if_neg i4] at e
      by_cases im : i = m
      · rw [if_pos im] at e
        by_cases j4 : j = 4
        · rw [if_pos j4] at e
          have := h.2 4 m (by omega) (by omega) e
          omega
        · rw [if_neg j4] at e
          by_cases jm : j = m
          · omega
          · rw [if_neg jm] at e
            have := h.2 4 j (by omega) (by omega) e
            omega
      · rw [if_neg im] at e
        by_cases j4 : j = 4
        · rw [if_pos j4] at e
          have := h.2 i m (by omega) (by omega) e
          omega
        · rw [if_neg j4] at e
          by_cases jm : j = m
          · rw [if_pos jm] at e
            have := h.2 i 4 (by omega) (by omega) e
            omega
          · rw [if_neg jm] at e
            exact h.2 i j (by omega) (by omega) e
theorem cr_swp_rf {τ : Nat → Nat} {m : Nat} (hm : m < 4) : cr_up (cr_up (cr_rf τ) 1 2 (some (τ m))) (29 + 25 * m) 4 (some (τ 4)) = cr_rf (cr_swp τ m) := by
  funext b k
  by_cases h1 : b = 1 ∧ k = 2
  · obtain ⟨rfl, rfl⟩ := h1
    rw [cr_up_b (by omega), cr_up_s]
    simp [cr_rf, cr_swp]
  by_cases h4 : k = 4 ∧ (b = 29 ∨ b = 54 ∨ b = 79 ∨ b = 104)
  · obtain ⟨rfl, hb⟩ := h4
    rcases (show m = 0 ∨ m = 1 ∨ m = 2 ∨ m = 3 by omega) with rfl | rfl | rfl | rfl <;> rcases hb with rfl | rfl | rfl | rfl <;> simp [cr_up, cr_rf, cr_swp]
  · have e1 : cr_up (cr_up (cr_rf τ) 1 2 (some (τ m))) (29 + 25 * m) 4 (some (τ 4)) b k = cr_rf τ b k := by
      unfold cr_up
      rw [if_neg (by omega), if_neg h1]
    rw [e1]
    unfold cr_rf
    rw [if_neg h1, if_neg (by omega), if_neg (by omega), if_neg (by omega), if_neg (by omega), if_neg h1, if_neg (by omega), if_neg (by omega), if_neg (by omega), if_neg (by omega)]
def p_yX8_table (τ : Nat → Nat) (x1 : Int32) (I : cr_I) : Prop := cr_Lok I
def q_yX8_table (τ : Nat → Nat) (x1 : Int32) (I : cr_I) (r : Int32) (J : cr_I) (τ' : Nat → Nat) : Prop := (¬ (0 ≤ x1.toInt ∧ x1.toInt ≤ 3) ∧ r = -2 ∧ J = I ∧ τ' = τ) ∨ ((0 ≤ x1.toInt ∧ x1.toInt ≤ 3) ∧ ((¬ (cr_paS (I 2) (cr_tL I) 6 0).1 = none ∧ r = -4 ∧ cr_fp (τ 4) I J ∧ τ' = τ) ∨ ((cr_paS (I 2) (cr_tL I) 6 0).1 = none ∧ r = nI (cr_paS (I 2) (cr_tL I) 6 0).2 ∧ (1 ≤ (cr_paS (I 2) (cr_tL I) 6 0).2 ∧ (cr_paS (I 2) (cr_tL I) 6 0).2 ≤ 6) ∧ (∀ b k, ¬ (b = 1 ∧ (k = 1 ∨ k = 3 ∨ k = 4)) → ¬ (τ 4 ≤ b ∧ b < τ 4 + 24) → J b k = I b k) ∧ J 1 1 = 0 ∧ J (τ 4) 0 = nI (cr_paS (I 2) (cr_tL I) 6 0).2 ∧ (∀ l, l < (cr_paS (I 2) (cr_tL I) 6 0).2 → cr_lnT (τ 4) l J (I 2) (cr_tL I) (cr_lnt (I 2) (cr_tL I) l)) ∧ τ' = cr_swp τ x1.toNatClampNeg)))
theorem bk_yX8_table_0 {Γ : cr_G} {K : cr_K} {τ : Nat → Nat} {I : cr_I} {x1 : Int32} (hτ : cr_tau τ)  (h : cr_Ok yX8_table cX8_table 4 (some .int) (cr_rm0 9 194) K 247 247 Γ) (hyp : ((f_yX8_isNoMake τ x1 I) = 0 → (p_yX7_parse τ I ∧ (∀ (r1 : Int32) (J1 : cr_I), q_yX7_parse τ I r1 J1 → ((r1 = (-1 : Int32) → ((0 ≤ x1.toInt ∧ x1.toInt < 4) ∧ cr_V Γ 50 [.ref 0, .int x1, .ref (29 + 25 * x1.toNatClampNeg), .ref (τ 4)] [.ref (τ x1.toNatClampNeg), .ref 1] J1 (cr_rf τ) 247)) ∧ (¬ r1 = (-1 : Int32) → K (some (.int (-4 : Int32))) J1 (cr_rf τ)))))) ∧ (¬ (f_yX8_isNoMake τ x1 I) = 0 → K (some (.int (-2 : Int32))) I (cr_rf τ))) : cr_V Γ 0 [.ref 0, .int x1, .null, .null] [] I (cr_rf τ) 247 := by
  refine cr_iload_n h (j := 1) rfl rfl dX8_table_0 ?_
  refine cr_callS h C_yX8_isNoMake cZ_yX8_isNoMake wm_X8_51 ws_yX8_isNoMake (cr_rmS (by decide) (by decide)) (As := [.int x1]) rfl (Nat.le_of_ble_eq_true rfl) dX8_table_1 ⟨τ, x1, rfl, hτ, rfl, ?_⟩
  show cr_V Γ 4 [.ref 0, .int x1, .null, .null] [.int (f_yX8_isNoMake τ x1 I)] I (cr_rf τ) 247
  refine cr_if_eq h (tgt := 10) (by decide) dX8_table_4 (fun c1 => ?_) (fun c1 => ?_)
  · have hyp := hyp.1 c1
    refine cr_aload_n h (j := 0) rfl rfl dX8_table_10 ?_
    refine cr_getR h (k := 0) cr_clsX8 (by decide) rfl rfl wf_X8_10 (by decide) rfl rfl dX8_table_11 ?_
    refine cr_callV h (c0 := 7) (T0 := TX7) C_yX7_parse cZ_yX7_parse wm_X8_87 wv_yX7_parse we_yX7_parse (by decide) rfl rfl (cr_rmS (by decide) (by decide)) (As := []) rfl (Nat.le_of_ble_eq_true rfl) dX8_table_14 ⟨τ, rfl, hτ, rfl, hyp.1, fun r1 J1 q1 => ?_⟩
    have hyp := hyp.2 r1 J1 q1
    show cr_V Γ 17 [.ref 0, .int x1, .null, .null] [.int r1] J1 (cr_rf τ) 247
    refine cr_iconst h (v := (-1 : Int32)) (by decide) dX8_table_17 ?_
    refine cr_icmp_eq h (tgt := 24) (by decide) dX8_table_18 (fun c2 => ?_) (fun c2 => ?_)
    · have hyp := hyp.1 c2
      refine cr_aload_n h (j := 0) rfl rfl dX8_table_24 ?_
      refine cr_getR h (k := 1) cr_clsX8 (by decide) rfl rfl wf_X8_19 (by decide) rfl rfl dX8_table_25 ?_
      refine cr_getR h (k := 0) cr_clsX3 (by decide) rfl rfl wf_X8_59 (by decide) rfl rfl dX8_table_28 ?_
      refine cr_iload_n h (j := 1) rfl rfl dX8_table_31 ?_
      have hb1 := hyp.1
      have hyp := hyp.2
      refine cr_aaldM h (by decide) rfl hb1 ((kr_28 hb1).2.2.1 τ) dX8_table_32 ?_
      refine cr_astore_n h (j := 2) rfl (by decide) rfl dX8_table_33 ?_
      show cr_V Γ 34 [.ref 0, .int x1, .ref (29 + 25 * x1.toNatClampNeg), .null] [] J1 (cr_rf τ) 247
      refine cr_aload_n h (j := 0) rfl rfl dX8_table_34 ?_
      refine cr_getR h (k := 0) cr_clsX8 (by decide) rfl rfl wf_X8_10 (by decide) rfl rfl dX8_table_35 ?_
      refine cr_getR h (k := 2) cr_clsX7 (by decide) rfl rfl wf_X8_91 (by decide) rfl rfl dX8_table_38 ?_
      refine cr_astore_n h (j := 3) rfl (by decide) rfl dX8_table_41 ?_
      show cr_V Γ 42 [.ref 0, .int x1, .ref (29 + 25 * x1.toNatClampNeg), .ref (τ 4)] [] J1 (cr_rf τ) 247
      refine cr_aload_n h (j := 0) rfl rfl dX8_table_42 ?_
      refine cr_getR h (k := 0) cr_clsX8 (by decide) rfl rfl wf_X8_10 (by decide) rfl rfl dX8_table_43 ?_
      refine cr_aload_n h (j := 2) rfl rfl dX8_table_46 ?_
      refine cr_getR h (k := 4) cr_clsX2 (by decide) rfl rfl wf_X8_95 (kr_28 hb1).1 (kr_28 hb1).2.1 ((kr_28 hb1).2.2.2 τ) dX8_table_47 ?_
      exact hyp
    · have hyp := hyp.2 c2
      refine cr_bipush h (v := (-4 : Int32)) (by decide) dX8_table_21 ?_
      refine cr_iret h rfl rfl rfl dX8_table_23 ?_
      exact hyp
  · have hyp := hyp.2 c1
    refine cr_bipush h (v := (-2 : Int32)) (by decide) dX8_table_7 ?_
    refine cr_iret h rfl rfl rfl dX8_table_9 ?_
    exact hyp
abbrev T_yX8_table : cr_T := fun vs I R K => ∃ (τ : Nat → Nat) (x1 : Int32), R = cr_rf τ ∧ cr_tau τ ∧ vs = [.ref 0, .int x1] ∧ p_yX8_table τ x1 I ∧ ∀ (r : Int32) J τ', q_yX8_table τ x1 I r J τ' → K (some (.int r)) J (cr_rf τ')
abbrev S_yX8_table : Prop := cr_C yX8_table cX8_table 4 (some .int) (cr_rm0 9 194) 247 247 T_yX8_table
theorem G_yX8_table (H : ∀ (Γ : cr_G) (K : cr_K) (τ : Nat → Nat) (x1 : Int32) (I : cr_I), cr_tau τ → cr_Ok yX8_table cX8_table 4 (some .int) (cr_rm0 9 194) K 247 247 Γ → p_yX8_table τ x1 I → (∀ (r : Int32) J τ', q_yX8_table τ x1 I r J τ' → K (some (.int r)) J (cr_rf τ')) → cr_V Γ 0 [.ref 0, .int x1, .null, .null] [] I (cr_rf τ) 247) : cr_C yX8_table cX8_table 4 (some .int) (cr_rm0 9 194) 247 247 T_yX8_table := by
  refine cr_C.of (by decide +kernel) (fun vs I R K hT => ?_) (fun Γ K h vs I R hT => ?_)
  · obtain ⟨τ, x1, rfl, hτ, rfl, hp, hK⟩ := hT
    exact Nat.le_of_ble_eq_true rfl
  · obtain ⟨τ, x1, rfl, hτ, rfl, hp, hK⟩ := hT
    exact H Γ K τ x1 I hτ h hp hK
theorem bk_yX8_table_58 {Γ : cr_G} {K : cr_K} {τ : Nat → Nat} {I : cr_I} {b : Nat} (hτ : cr_tau τ) (hb : cr_isT b) (h : cr_Ok yX8_table cX8_table 4 (some .int) (cr_rm0 9 194) K 247 247 Γ) (hyp : ∀ J1 : cr_I, J1 = cr_up I 1 1 (0 : Int32) → K (some (.int (J1 b 0))) J1 (cr_rf τ)) : cr_V Γ 58 [.ref 0, .null, .null, .ref b] [] I (cr_rf τ) 247 := by
  refine cr_aload_n h (j := 0) rfl rfl dX8_table_58 ?_
  refine cr_getR h (k := 0) cr_clsX8 (by decide) rfl rfl wf_X8_10 (by decide) rfl rfl dX8_table_59 ?_
  refine cr_iconst h (v := (0 : Int32)) (by decide) dX8_table_62 ?_
  refine cs_put h (k := 1) cr_clsX7 (by decide) rfl rfl rfl rfl wf_X8_78 (by decide) (by decide) rfl dX8_table_63 (fun J1 eJ1 => ?_)
  have hyp := hyp J1 eJ1
  refine cr_aload_n h (j := 3) rfl rfl dX8_table_66 ?_
  refine cr_getI h (k := 0) cr_clsX6 (by decide) rfl rfl wf_X8_98 (by have := (kt_t hb).1; omega) (kt_t hb).2.1 dX8_table_67 ?_
  refine cr_iret h rfl rfl rfl dX8_table_70 ?_
  exact hyp
theorem C_yX8_table : S_yX8_table := G_yX8_table (by
  intro Γ K τ x1 I hτ h hp hK
  unfold q_yX8_table at hK
  refine bk_yX8_table_0 hτ h ?_
  rw [cr_nomk0]
  refine ⟨fun c => ⟨hp, fun r1 J1 hq => ?_⟩, fun c => hK _ _ _ (Or.inl ⟨c, rfl, rfl, rfl⟩)⟩
  have h4 := cr_T4 hτ
  obtain ⟨f1, hq⟩ := hq
  generalize cr_tL I = L at *
  generalize I 2 = B at *
  generalize cr_paS B L 6 0 = R at *
  rcases hq with ⟨p0, hR1, hp0, rfl⟩ | ⟨hR1, rfl, j4, hn, hlns⟩
  · have hne : ¬ nI p0 = (-1 : Int32) := by
      rw [cr_eq, cr_nt (by omega)]
      intro z
      have : (-1 : Int32).toInt = -1 := rfl
      omega
    exact ⟨fun z => absurd z hne, fun _ => hK _ _ _ (Or.inr ⟨c, Or.inl ⟨by rw [hR1]; simp, rfl, f1, rfl⟩⟩)⟩
  · refine ⟨fun _ => ⟨by omega, ?_⟩, fun z => absurd rfl z⟩
    have hm : x1.toNatClampNeg < 4 := by show x1.toInt.toNat < 4; omega
    have hx4 : 0 ≤ x1.toInt ∧ x1.toInt < 4 := by omega
    refine cr_putR h (k := 2) cr_clsX7 (by decide) rfl (Or.inl ⟨_, rfl⟩) rfl rfl wf_X8_91 (by decide) (by decide) rfl dX8_table_50 ?_
    refine cr_aload_n h (j := 2) rfl rfl dX8_table_53 ?_
    refine cr_aload_n h (j := 3) rfl rfl dX8_table_54 ?_
    refine cr_putR h (k := 4) cr_clsX2 (by decide) rfl (Or.inl ⟨_, rfl⟩) rfl rfl wf_X8_95 (kr_28 hx4).1 (by decide) (kr_28 hx4).2.1 dX8_table_55 ?_
    rw [cr_swp_rf hm]
    refine cr_weak [true, false, false, true] (bk_yX8_table_58 (cr_swp_tau hτ hm) (hτ.1 4 (by decide)) h ?_)
    rintro J rfl
    rw [cr_up_b (by omega), j4]
    refine hK _ _ _ (Or.inr ⟨c, Or.inr ⟨hR1, rfl, hn, fun b k q1 q2 => ?_, cr_up_s, ?_, fun l hl => ?_, rfl⟩⟩)
    · unfold cr_up
      rw [if_neg (by omega)]
      exact f1 b k (by omega) q2
    · rw [cr_up_b (by omega)]; exact j4
    · refine (hlns l hl).eqv ?_ ?_ (fun k => ?_) (fun k => ?_) (fun k => ?_) <;> exact cr_up_b (by omega))
