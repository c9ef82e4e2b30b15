/-! the class's run, its pieces -/
def cr_nok (I : cr_I) : Prop := 1 ≤ (I 27 1).toInt ∧ (I 27 1).toInt ≤ 6
def cr_cn0 (I : cr_I) : Nat := (I 27 1).toNatClampNeg
theorem cr_nok.un {I : cr_I} (h : cr_nok I) : I 27 1 = nI (cr_cn0 I) ∧ 1 ≤ cr_cn0 I ∧ cr_cn0 I ≤ 6 := by
  obtain ⟨e, h6⟩ := cr_ofI (x := I 27 1) (B := 6) (by have := h.1; omega) h.2
  refine ⟨e, ?_, h6⟩
  show 1 ≤ (I 27 1).toInt.toNat
  have := h.1
  omega
def cr_PB (b k : Nat) : Prop := (b = 137 ∧ (k = 6 ∨ k = 7)) ∨ (139 ≤ b ∧ b ≤ 158 ∧ k = 0)
def p_yX4_begin (τ : Nat → Nat) (x2 : Int32) (I : cr_I) : Prop := cr_nok I
def q_yX4_begin (τ : Nat → Nat) (x2 : Int32) (I J : cr_I) : Prop := (J 137 6 = -1 ∧ J 137 7 = -1) ∧ (∀ i, i < cr_cn0 I → J (139 + i) 0 = I 130 1 ∧ J (146 + i) 0 = x2 ∧ J (153 + i) 0 = 300 - nI i * x2) ∧ cr_F cr_PB I J
theorem bk_yX4_begin_0 {Γ : cr_G} {K : cr_K} {τ : Nat → Nat} {I : cr_I} {x2 : Int32} (hτ : cr_tau τ)  (h : cr_Ok yX4_begin cX4_begin 4 none (cr_rm0 0 0) K 247 247 Γ) (hyp : ∀ J1 : cr_I, J1 = cr_up I 137 6 (-1 : Int32) → (∀ J2 : cr_I, J2 = cr_up J1 137 7 (-1 : Int32) → cr_V Γ 12 [.ref 137, .ref 27, .int x2, .int (0 : Int32)] [] J2 (cr_rf τ) 247)) : cr_V Γ 0 [.ref 137, .ref 27, .int x2, .null] [] I (cr_rf τ) 247 := by
  refine cr_aload_n h (j := 0) rfl rfl dX4_begin_0 ?_
  refine cr_iconst h (v := (-1 : Int32)) (by decide) dX4_begin_1 ?_
  refine cs_put h (k := 6) cr_clsX4 (by decide) rfl rfl rfl rfl wf_X4_32 (by decide) (by decide) rfl dX4_begin_2 (fun J1 eJ1 => ?_)
  have hyp := hyp J1 eJ1
  refine cr_aload_n h (j := 0) rfl rfl dX4_begin_5 ?_
  refine cr_iconst h (v := (-1 : Int32)) (by decide) dX4_begin_6 ?_
  refine cs_put h (k := 7) cr_clsX4 (by decide) rfl rfl rfl rfl wf_X4_36 (by decide) (by decide) rfl dX4_begin_7 (fun J2 eJ2 => ?_)
  have hyp := hyp J2 eJ2
  refine cr_iconst h (v := (0 : Int32)) (by decide) dX4_begin_10 ?_
  refine cr_istore_n h (j := 3) rfl (by decide) rfl dX4_begin_11 ?_
  show cr_V Γ 12 [.ref 137, .ref 27, .int x2, .int (0 : Int32)] [] J2 (cr_rf τ) 247
  exact cr_weak [true, true, true, true] hyp
theorem bk_yX4_begin_12 {Γ : cr_G} {K : cr_K} {τ : Nat → Nat} {I : cr_I} {x2 : Int32} {x3 : Int32} (hτ : cr_tau τ)  (h : cr_Ok yX4_begin cX4_begin 4 none (cr_rm0 0 0) K 247 247 Γ) (hyp : ((I 27 1) ≤ x3 → K none I (cr_rf τ)) ∧ (¬ (I 27 1) ≤ x3 → ((0 ≤ x3.toInt ∧ x3.toInt < 6) ∧ (∀ J3 : cr_I, J3 = cr_up I (139 + x3.toNatClampNeg) 0 (I 130 1) → ((0 ≤ x3.toInt ∧ x3.toInt < 6) ∧ (∀ J4 : cr_I, J4 = cr_up J3 (146 + x3.toNatClampNeg) 0 x2 → ((0 ≤ x3.toInt ∧ x3.toInt < 6) ∧ (∀ J5 : cr_I, J5 = cr_up J4 (153 + x3.toNatClampNeg) 0 ((300 : Int32) - (x3 * x2)) → (∀ v1 : Int32, v1 = x3 + (1 : Int32) → cr_V Γ 12 [.ref 137, .ref 27, .int x2, .int v1] [] J5 (cr_rf τ) 247))))))))) : cr_V Γ 12 [.ref 137, .ref 27, .int x2, .int x3] [] I (cr_rf τ) 247 := by
  refine cr_iload_n h (j := 3) rfl rfl dX4_begin_12 ?_
  refine cr_aload_n h (j := 1) rfl rfl dX4_begin_13 ?_
  refine cr_getI h (k := 1) cr_clsX3 (by decide) rfl rfl wf_X4_69 (by decide) rfl dX4_begin_14 ?_
  refine cr_icmp_ge h (tgt := 64) (by decide) dX4_begin_17 (fun c1 => ?_) (fun c1 => ?_)
  · have hyp := hyp.1 c1
    refine cr_vret h rfl rfl dX4_begin_64 ?_
    exact hyp
  · have hyp := hyp.2 c1
    refine cr_aload_n h (j := 0) rfl rfl dX4_begin_20 ?_
    refine cr_getR h (k := 0) cr_clsX4 (by decide) rfl rfl wf_X4_11 (by decide) rfl rfl dX4_begin_21 ?_
    refine cr_iload_n h (j := 3) rfl rfl dX4_begin_24 ?_
    have hb1 := hyp.1
    have hyp := hyp.2
    refine cr_aald h (by decide) rfl hb1 ((kr_138 hb1).2.2 τ) dX4_begin_25 ?_
    refine cr_iconst h (v := (0 : Int32)) (by decide) dX4_begin_26 ?_
    refine cr_aload_n h (j := 1) rfl rfl dX4_begin_27 ?_
    refine cr_getR h (k := 3) cr_clsX3 (by decide) rfl rfl wf_X4_83 (by decide) rfl rfl dX4_begin_28 ?_
    refine cr_iconst h (v := (1 : Int32)) (by decide) dX4_begin_31 ?_
    refine cs_ild h (by decide) rfl (by decide) (q := 1) (by decide) dX4_begin_32 ?_
    refine cs_ist h (kr_138 hb1).1 (by decide) (kr_138 hb1).2.1 (by decide) (q := 0) (by decide) dX4_begin_33 (fun J3 eJ3 => ?_)
    have hyp := hyp J3 eJ3
    refine cr_aload_n h (j := 0) rfl rfl dX4_begin_34 ?_
    refine cr_getR h (k := 1) cr_clsX4 (by decide) rfl rfl wf_X4_16 (by decide) rfl rfl dX4_begin_35 ?_
    refine cr_iload_n h (j := 3) rfl rfl dX4_begin_38 ?_
    have hb2 := hyp.1
    have hyp := hyp.2
    refine cr_aald h (by decide) rfl hb2 ((kr_145 hb2).2.2 τ) dX4_begin_39 ?_
    refine cr_iconst h (v := (0 : Int32)) (by decide) dX4_begin_40 ?_
    refine cr_iload_n h (j := 2) rfl rfl dX4_begin_41 ?_
    refine cs_ist h (kr_145 hb2).1 (by decide) (kr_145 hb2).2.1 (by decide) (q := 0) (by decide) dX4_begin_42 (fun J4 eJ4 => ?_)
    have hyp := hyp J4 eJ4
    refine cr_aload_n h (j := 0) rfl rfl dX4_begin_43 ?_
    refine cr_getR h (k := 2) cr_clsX4 (by decide) rfl rfl wf_X4_19 (by decide) rfl rfl dX4_begin_44 ?_
    refine cr_iload_n h (j := 3) rfl rfl dX4_begin_47 ?_
    have hb3 := hyp.1
    have hyp := hyp.2
    refine cr_aald h (by decide) rfl hb3 ((kr_152 hb3).2.2 τ) dX4_begin_48 ?_
    refine cr_iconst h (v := (0 : Int32)) (by decide) dX4_begin_49 ?_
    refine cr_sipush h (v := (300 : Int32)) (by decide) dX4_begin_50 ?_
    refine cr_iload_n h (j := 3) rfl rfl dX4_begin_53 ?_
    refine cr_iload_n h (j := 2) rfl rfl dX4_begin_54 ?_
    refine cr_imul h dX4_begin_55 ?_
    refine cr_isub h dX4_begin_56 ?_
    refine cs_ist h (kr_152 hb3).1 (by decide) (kr_152 hb3).2.1 (by decide) (q := 0) (by decide) dX4_begin_57 (fun J5 eJ5 => ?_)
    have hyp := hyp J5 eJ5
    refine cs_inc h (v := (1 : Int32)) 3 rfl (by decide) (by decide) rfl dX4_begin_58 (fun v1 ev1 => ?_)
    have hyp := hyp v1 ev1
    show cr_V Γ 61 [.ref 137, .ref 27, .int x2, .int v1] [] J5 (cr_rf τ) 247
    refine cr_goto h (tgt := 12) (by decide) dX4_begin_61 ?_
    exact cr_weak [true, true, true, true] hyp
abbrev T_yX4_begin : cr_T := fun vs I R K => ∃ (τ : Nat → Nat) (x2 : Int32), R = cr_rf τ ∧ cr_tau τ ∧ vs = [.ref 137, .ref 27, .int x2] ∧ p_yX4_begin τ x2 I ∧ ∀ J, q_yX4_begin τ x2 I J → K none J (cr_rf τ)
abbrev S_yX4_begin : Prop := cr_C yX4_begin cX4_begin 4 none (cr_rm0 0 0) 247 247 T_yX4_begin
theorem G_yX4_begin (H : ∀ (Γ : cr_G) (K : cr_K) (τ : Nat → Nat) (x2 : Int32) (I : cr_I), cr_tau τ → cr_Ok yX4_begin cX4_begin 4 none (cr_rm0 0 0) K 247 247 Γ → p_yX4_begin τ x2 I → (∀ J, q_yX4_begin τ x2 I J → K none J (cr_rf τ)) → cr_V Γ 0 [.ref 137, .ref 27, .int x2, .null] [] I (cr_rf τ) 247) : cr_C yX4_begin cX4_begin 4 none (cr_rm0 0 0) 247 247 T_yX4_begin := by
  refine cr_C.of (by decide +kernel) (fun vs I R K hT => ?_) (fun Γ K h vs I R hT => ?_)
  · obtain ⟨τ, x2, rfl, hτ, rfl, hp, hK⟩ := hT
    exact Nat.le_of_ble_eq_true rfl
  · obtain ⟨τ, x2, rfl, hτ, rfl, hp, hK⟩ := hT
    exact H Γ K τ x2 I hτ h hp hK
theorem C_yX4_begin : S_yX4_begin := G_yX4_begin (by
  intro Γ K τ x2 I hτ h hp hK
  obtain ⟨eN, h1, h6⟩ := cr_nok.un hp
  unfold q_yX4_begin at hK
  generalize cr_cn0 I = n at *
  refine bk_yX4_begin_0 hτ h ?_
  rintro J1 rfl J2 rfl
  refine cr_loop (fun i => ∀ J, J 137 6 = -1 → J 137 7 = -1 → (∀ j, j < i → J (139 + j) 0 = I 130 1 ∧ J (146 + j) 0 = x2 ∧ J (153 + j) 0 = 300 - nI j * x2) → cr_F cr_PB I J → cr_V Γ 12 [.ref 137, .ref 27, .int x2, .int (nI i)] [] J (cr_rf τ) 247) n ?_ ?_ 0 (Nat.zero_le _) _ (by rw [cr_up_k (by decide), cr_up_s]) cr_up_s (fun j hj => absurd hj (Nat.not_lt_zero _)) ((cr_F.rf.up (by unfold cr_PB; omega)).up (by unfold cr_PB; omega))
  · intro J a1 a2 a3 hf
    refine bk_yX4_begin_12 hτ h ⟨fun _ => hK _ ⟨⟨a1, a2⟩, a3, hf⟩, fun z => absurd ?_ z⟩
    rw [hf 27 1 (by unfold cr_PB; omega), eN]; exact Int32.le_refl _
  · intro i hi ih J a1 a2 a3 hf
    have hxi : (0 : Int) ≤ (nI i).toInt ∧ (nI i).toInt < 6 := cr_ix (by omega) (by omega)
    refine bk_yX4_begin_12 hτ h ⟨fun z => absurd z ?_, fun _ => ⟨hxi, ?_⟩⟩
    · rw [hf 27 1 (by unfold cr_PB; omega), eN]; exact cr_nle hi (by omega)
    · rw [cr_nc (show i < 100000 by omega), hf 130 1 (by unfold cr_PB; omega)]
      rintro J3 rfl
      refine ⟨hxi, ?_⟩
      rintro J4 rfl
      refine ⟨hxi, ?_⟩
      rintro J5 rfl v rfl
      rw [nI_1]
      refine ih _ ?_ ?_ (fun j hj => ?_) (((hf.up (by unfold cr_PB; omega)).up (by unfold cr_PB; omega)).up (by unfold cr_PB; omega))
      · rw [cr_up_b (by omega), cr_up_b (by omega), cr_up_b (by omega)]; exact a1
      · rw [cr_up_b (by omega), cr_up_b (by omega), cr_up_b (by omega)]; exact a2
      · by_cases e : j = i
        · subst e
          refine ⟨?_, ?_, ?_⟩
          · rw [cr_up_b (by omega), cr_up_b (by omega), cr_up_s]
          · rw [cr_up_b (by omega), cr_up_s]
          · rw [cr_up_s]
        · obtain ⟨b1, b2, b3⟩ := a3 j (by omega)
          refine ⟨?_, ?_, ?_⟩
          · rw [cr_up_b (by omega), cr_up_b (by omega), cr_up_b (by omega)]; exact b1
          · rw [cr_up_b (by omega), cr_up_b (by omega), cr_up_b (by omega)]; exact b2
          · rw [cr_up_b (by omega), cr_up_b (by omega), cr_up_b (by omega)]; exact b3)
/-! words -/
def cr_dl (w : Int32) : Nat := if 1 < w.toNatClampNeg then w.toNatClampNeg else 1
def cr_hdc (W0 : Nat → Int32) (o : Option Nat) : Int32 := match o with
  | none => 0
  | some s => if 0 < -(W0 s) then -(W0 s) else 0
def cr_PH (t b k : Nat) : Prop := (b = 166 ∨ b = 167) ∧ k = t
def p_yX4_hear (τ : Nat → Nat) (x1 x2 x3 : Int32) (I : cr_I) : Prop := (0 ≤ x1.toInt ∧ x1.toInt ≤ 31) ∧ (0 ≤ x2.toInt ∧ x2.toInt ≤ 4)
def q_yX4_hear (τ : Nat → Nat) (x1 x2 x3 : Int32) (I J : cr_I) : Prop := J 166 x1.toNatClampNeg = cr_hdc (I 160) (cr_last x3 (x1.toNatClampNeg + 1 - cr_dl x2)) ∧ J 167 x1.toNatClampNeg = cr_od x1.toNatClampNeg (cr_last x3 (x1.toNatClampNeg + 1 - cr_dl x2)) ∧ cr_F (cr_PH x1.toNatClampNeg) I J
theorem bk_yX4_hear_0 {Γ : cr_G} {K : cr_K} {τ : Nat → Nat} {I : cr_I} {x1 : Int32} {x2 : Int32} {x3 : Int32} (hτ : cr_tau τ)  (h : cr_Ok yX4_hear cX4_hear 5 none (cr_rm0 1 21) K 247 247 Γ) (hyp : (0 ≤ x1.toInt ∧ x1.toInt < 32) ∧ (∀ J1 : cr_I, J1 = cr_up I 166 x1.toNatClampNeg (0 : Int32) → ((0 ≤ x1.toInt ∧ x1.toInt < 32) ∧ (∀ J2 : cr_I, J2 = cr_up J1 167 x1.toNatClampNeg (99 : Int32) → (∀ v1 : Int32, v1 = (x1 - (f_yJ9_max_7cf53 τ (1 : Int32) x2 J2)) → cr_V Γ 24 [.ref 137, .int x1, .null, .int x3, .int v1] [] J2 (cr_rf τ) 247))))) : cr_V Γ 0 [.ref 137, .int x1, .int x2, .int x3, .null] [] I (cr_rf τ) 247 := by
  refine cr_aload_n h (j := 0) rfl rfl dX4_hear_0 ?_
  refine cr_getR h (k := 4) cr_clsX4 (by decide) rfl rfl wf_X4_25 (by decide) rfl rfl dX4_hear_1 ?_
  refine cr_iload_n h (j := 1) rfl rfl dX4_hear_4 ?_
  refine cr_iconst h (v := (0 : Int32)) (by decide) dX4_hear_5 ?_
  refine cs_ist h (by decide) (by decide) rfl hyp.1 (q := x1.toNatClampNeg) rfl dX4_hear_6 (fun J1 eJ1 => ?_)
  have hyp := hyp.2 J1 eJ1
  refine cr_aload_n h (j := 0) rfl rfl dX4_hear_7 ?_
  refine cr_getR h (k := 5) cr_clsX4 (by decide) rfl rfl wf_X4_29 (by decide) rfl rfl dX4_hear_8 ?_
  refine cr_iload_n h (j := 1) rfl rfl dX4_hear_11 ?_
  refine cr_bipush h (v := (99 : Int32)) (by decide) dX4_hear_12 ?_
  refine cs_ist h (by decide) (by decide) rfl hyp.1 (q := x1.toNatClampNeg) rfl dX4_hear_14 (fun J2 eJ2 => ?_)
  have hyp := hyp.2 J2 eJ2
  refine cr_iload_n h (j := 1) rfl rfl dX4_hear_15 ?_
  refine cr_iconst h (v := (1 : Int32)) (by decide) dX4_hear_16 ?_
  refine cr_iload_n h (j := 2) rfl rfl dX4_hear_17 ?_
  refine cr_callS h C_yJ9_max_7cf53 cZ_yJ9_max_7cf53 wm_X4_129 ws_yJ9_max_7cf53 (cr_rmS (by decide) (by decide)) (As := [.int (1 : Int32), .int x2]) rfl (Nat.le_of_ble_eq_true rfl) dX4_hear_18 ⟨τ, (1 : Int32), x2, rfl, hτ, rfl, ?_⟩
  show cr_V Γ 21 [.ref 137, .int x1, .int x2, .int x3, .null] [.int (f_yJ9_max_7cf53 τ (1 : Int32) x2 J2), .int x1] J2 (cr_rf τ) 247
  refine cr_isub h dX4_hear_21 ?_
  refine cs_i h 4 (by decide) rfl dX4_hear_22 (fun v1 ev1 => ?_)
  have hyp := hyp v1 ev1
  show cr_V Γ 24 [.ref 137, .int x1, .int x2, .int x3, .int v1] [] J2 (cr_rf τ) 247
  exact cr_weak [true, true, false, true, true] hyp
theorem bk_yX4_hear_24 {Γ : cr_G} {K : cr_K} {τ : Nat → Nat} {I : cr_I} {x1 : Int32} {x3 : Int32} {x4 : Int32} (hτ : cr_tau τ)  (h : cr_Ok yX4_hear cX4_hear 5 none (cr_rm0 1 21) K 247 247 Γ) (hyp : (x4 < 0 → K none I (cr_rf τ)) ∧ (¬ x4 < 0 → ((¬ ((x3 >>> (x4 &&& 31)) &&& (1 : Int32)) = 0 → (∀ v2 : Int32, v2 = x4 + (-1 : Int32) → cr_V Γ 24 [.ref 137, .int x1, .null, .int x3, .int v2] [] I (cr_rf τ) 247)) ∧ (((x3 >>> (x4 &&& 31)) &&& (1 : Int32)) = 0 → ((0 ≤ x4.toInt ∧ x4.toInt < 32) ∧ (0 ≤ x1.toInt ∧ x1.toInt < 32) ∧ (∀ J3 : cr_I, J3 = cr_up I 166 x1.toNatClampNeg (f_yJ9_max_7cf53 τ (0 : Int32) (-(I 160 x4.toNatClampNeg)) I) → ((0 ≤ x1.toInt ∧ x1.toInt < 32) ∧ (∀ J4 : cr_I, J4 = cr_up J3 167 x1.toNatClampNeg (x1 - x4) → K none J4 (cr_rf τ))))))))) : cr_V Γ 24 [.ref 137, .int x1, .null, .int x3, .int x4] [] I (cr_rf τ) 247 := by
  refine cr_iload h rfl dX4_hear_24 ?_
  refine cr_if_lt h (tgt := 75) (by decide) dX4_hear_26 (fun c1 => ?_) (fun c1 => ?_)
  · have hyp := hyp.1 c1
    refine cr_vret h rfl rfl dX4_hear_75 ?_
    exact hyp
  · have hyp := hyp.2 c1
    refine cr_iload_n h (j := 3) rfl rfl dX4_hear_29 ?_
    refine cr_iload h rfl dX4_hear_30 ?_
    refine cr_ishr h dX4_hear_32 ?_
    refine cr_iconst h (v := (1 : Int32)) (by decide) dX4_hear_33 ?_
    refine cr_iand h dX4_hear_34 ?_
    refine cr_if_ne h (tgt := 69) (by decide) dX4_hear_35 (fun c2 => ?_) (fun c2 => ?_)
    · have hyp := hyp.1 c2
      refine cs_inc h (v := (-1 : Int32)) 4 rfl (by decide) (by decide) rfl dX4_hear_69 (fun v2 ev2 => ?_)
      have hyp := hyp v2 ev2
      show cr_V Γ 72 [.ref 137, .int x1, .null, .int x3, .int v2] [] I (cr_rf τ) 247
      refine cr_goto h (tgt := 24) (by decide) dX4_hear_72 ?_
      exact cr_weak [true, true, false, true, true] hyp
    · have hyp := hyp.2 c2
      refine cr_aload_n h (j := 0) rfl rfl dX4_hear_38 ?_
      refine cr_getR h (k := 4) cr_clsX4 (by decide) rfl rfl wf_X4_25 (by decide) rfl rfl dX4_hear_39 ?_
      refine cr_iload_n h (j := 1) rfl rfl dX4_hear_42 ?_
      refine cr_iconst h (v := (0 : Int32)) (by decide) dX4_hear_43 ?_
      refine cr_aload_n h (j := 0) rfl rfl dX4_hear_44 ?_
      refine cr_getR h (k := 3) cr_clsX4 (by decide) rfl rfl wf_X4_22 (by decide) rfl rfl dX4_hear_45 ?_
      refine cr_iconst h (v := (0 : Int32)) (by decide) dX4_hear_48 ?_
      refine cr_aald h (by decide) rfl (by decide) rfl dX4_hear_49 ?_
      refine cr_iload h rfl dX4_hear_50 ?_
      refine cs_ild h (by decide) rfl hyp.1 (q := x4.toNatClampNeg) rfl dX4_hear_52 ?_
      have hyp := hyp.2
      refine cr_ineg h dX4_hear_53 ?_
      refine cr_callS h C_yJ9_max_7cf53 cZ_yJ9_max_7cf53 wm_X4_129 ws_yJ9_max_7cf53 (cr_rmS (by decide) (by decide)) (As := [.int (0 : Int32), .int (-(I 160 x4.toNatClampNeg))]) rfl (Nat.le_of_ble_eq_true rfl) dX4_hear_54 ⟨τ, (0 : Int32), (-(I 160 x4.toNatClampNeg)), rfl, hτ, rfl, ?_⟩
      show cr_V Γ 57 [.ref 137, .int x1, .null, .int x3, .int x4] [.int (f_yJ9_max_7cf53 τ (0 : Int32) (-(I 160 x4.toNatClampNeg)) I), .int x1, .ref 166] I (cr_rf τ) 247
      refine cs_ist h (by decide) (by decide) rfl hyp.1 (q := x1.toNatClampNeg) rfl dX4_hear_57 (fun J3 eJ3 => ?_)
      have hyp := hyp.2 J3 eJ3
      refine cr_aload_n h (j := 0) rfl rfl dX4_hear_58 ?_
      refine cr_getR h (k := 5) cr_clsX4 (by decide) rfl rfl wf_X4_29 (by decide) rfl rfl dX4_hear_59 ?_
      refine cr_iload_n h (j := 1) rfl rfl dX4_hear_62 ?_
      refine cr_iload_n h (j := 1) rfl rfl dX4_hear_63 ?_
      refine cr_iload h rfl dX4_hear_64 ?_
      refine cr_isub h dX4_hear_66 ?_
      refine cs_ist h (by decide) (by decide) rfl hyp.1 (q := x1.toNatClampNeg) rfl dX4_hear_67 (fun J4 eJ4 => ?_)
      have hyp := hyp.2 J4 eJ4
      refine cr_vret h rfl rfl dX4_hear_68 ?_
      exact hyp
abbrev T_yX4_hear : cr_T := fun vs I R K => ∃ (τ : Nat → Nat) (x1 : Int32) (x2 : Int32) (x3 : Int32), R = cr_rf τ ∧ cr_tau τ ∧ vs = [.ref 137, .int x1, .int x2, .int x3] ∧ p_yX4_hear τ x1 x2 x3 I ∧ ∀ J, q_yX4_hear τ x1 x2 x3 I J → K none J (cr_rf τ)
abbrev S_yX4_hear : Prop := cr_C yX4_hear cX4_hear 5 none (cr_rm0 1 21) 247 247 T_yX4_hear
theorem G_yX4_hear (H : ∀ (Γ : cr_G) (K : cr_K) (τ : Nat → Nat) (x1 : Int32) (x2 : Int32) (x3 : Int32) (I : cr_I), cr_tau τ → cr_Ok yX4_hear cX4_hear 5 none (cr_rm0 1 21) K 247 247 Γ → p_yX4_hear τ x1 x2 x3 I → (∀ J, q_yX4_hear τ x1 x2 x3 I J → K none J (cr_rf τ)) → cr_V Γ 0 [.ref 137, .int x1, .int x2, .int x3, .null] [] I (cr_rf τ) 247) : cr_C yX4_hear cX4_hear 5 none (cr_rm0 1 21) 247 247 T_yX4_hear := by
  refine cr_C.of (by decide +kernel) (fun vs I R K hT => ?_) (fun Γ K h vs I R hT => ?_)
  · obtain ⟨τ, x1, x2, x3, rfl, hτ, rfl, hp, hK⟩ := hT
    exact Nat.le_of_ble_eq_true rfl
  · obtain ⟨τ, x1, x2, x3, rfl, hτ, rfl, hp, hK⟩ := hT
    exact H Γ K τ x1 x2 x3 I hτ h hp hK
theorem C_yX4_hear : S_yX4_hear := G_yX4_hear (by
  intro Γ K τ x1 x2 x3 I hτ h hp hK
  obtain ⟨⟨h10, h11⟩, h20, h21⟩ := hp
  obtain ⟨e1, ht⟩ := cr_ofI (B := 31) h10 h11
  obtain ⟨e2, hw⟩ := cr_ofI (B := 4) h20 h21
  unfold q_yX4_hear cr_dl at hK
  generalize x1.toNatClampNeg = t at *
  generalize x2.toNatClampNeg = w at *
  have hxt : (0 : Int) ≤ (nI t).toInt ∧ (nI t).toInt < 32 := cr_ix (by omega) (by omega)
  have emax : ∀ J, f_yJ9_max_7cf53 τ 1 x2 J = nI (if 1 < w then w else 1) := by
    intro J
    unfold f_yJ9_max_7cf53
    rw [e2]
    have : ((1 : Int32) < nI w) ↔ 1 < w := cr_nlt (a := 1) (by omega) (by omega)
    by_cases q : 1 < w
    · rw [if_pos (this.mpr q), if_pos q]
    · rw [if_neg (fun z => q (this.mp z)), if_neg q]
      rfl
  have hd1 : 1 ≤ (if 1 < w then w else 1) ∧ (if 1 < w then w else 1) ≤ 4 := by split <;> omega
  generalize (if 1 < w then w else 1) = dl at *
  refine bk_yX4_hear_0 hτ h ?_
  rw [e1, cr_nc (show t < 100000 by omega)]
  refine ⟨hxt, ?_⟩
  rintro J1 rfl
  refine ⟨hxt, ?_⟩
  rintro J2 rfl
  rw [emax]
  rintro v rfl
  have hf2 : cr_F (cr_PH t) I (cr_up (cr_up I 166 t 0) 167 t 99) := (cr_F.rf.up (by unfold cr_PH; omega)).up (by unfold cr_PH; omega)
  have g6 : cr_up (cr_up I 166 t 0) 167 t 99 166 t = 0 := by rw [cr_up_b (by decide), cr_up_s]
  have g7 : cr_up (cr_up I 166 t 0) 167 t 99 167 t = 99 := cr_up_s
  generalize cr_up (cr_up I 166 t 0) 167 t 99 = J2 at *
  have key : ∀ m, m ≤ t → cr_last x3 (t + 1 - dl) = cr_last x3 m → cr_V Γ 24 [.ref 137, .int (nI t), .null, .int x3, .int (nI m - 1)] [] J2 (cr_rf τ) 247 := by
    intro m
    induction m with
    | zero =>
      intro _ hl
      refine bk_yX4_hear_24 hτ h ⟨fun _ => hK _ ⟨?_, ?_, hf2⟩, fun z => absurd (by decide) z⟩
      · rw [hl]; exact g6
      · rw [hl]; exact g7
    | succ m ih =>
      intro hm hl
      rw [nI_pred]
      have hxm : (0 : Int) ≤ (nI m).toInt ∧ (nI m).toInt < 32 := cr_ix (by omega) (by omega)
      refine bk_yX4_hear_24 hτ h ⟨fun z => absurd z (nI_pos (by omega)), fun _ => ⟨fun c => ?_, fun c => ⟨hxm, hxt, ?_⟩⟩⟩
      · rintro v rfl
        rw [show nI m + (-1 : Int32) = nI m - 1 from (Int32.sub_eq_add_neg _ _).symm]
        refine ih (by omega) ?_
        rw [hl, cr_last, if_neg (show ¬ cr_bit x3 (nI m) = 0 from c)]
      · have hl' : cr_last x3 (t + 1 - dl) = some m := by rw [hl, cr_last, if_pos (show cr_bit x3 (nI m) = 0 from c)]
        rw [cr_nc (show m < 100000 by omega), cr_nc (show t < 100000 by omega), hf2 160 m (by unfold cr_PH; omega)]
        rintro J3 rfl
        refine ⟨hxt, ?_⟩
        rw [pk_sub (by omega)]
        rintro J4 rfl
        refine hK _ ⟨?_, ?_, (hf2.up (by unfold cr_PH; omega)).up (by unfold cr_PH; omega)⟩
        · rw [cr_up_b (by decide), cr_up_s, hl']
          rfl
        · rw [cr_up_s, hl']
          rfl
  by_cases q : dl ≤ t
  · rw [show nI t - nI dl = nI (t + 1 - dl) - 1 by rw [show t + 1 - dl = (t - dl) + 1 by omega, nI_pred, pk_sub (by omega)]]
    exact key _ (by omega) rfl
  · refine bk_yX4_hear_24 hτ h ⟨fun _ => hK _ ⟨?_, ?_, hf2⟩, fun z => absurd (pk_sneg (by omega) (by omega)) z⟩
    · rw [show t + 1 - dl = 0 by omega]; exact g6
    · rw [show t + 1 - dl = 0 by omega]; exact g7)
/-! strangers -/
def cr_sok (I : cr_I) : Prop := (0 ≤ (I 27 13).toInt ∧ (I 27 13).toInt ≤ 5) ∧ (0 ≤ (I 27 14).toInt ∧ (I 27 14).toInt ≤ (I 27 15).toInt) ∧ (I 27 15).toInt ≤ 31
abbrev cr_hsP (I : cr_I) (i t : Nat) : Prop := 0 < (I 27 13).toNatClampNeg ∧ (I 27 13).toNatClampNeg = i ∧ (I 27 14).toNatClampNeg ≤ t ∧ t ≤ (I 27 15).toNatClampNeg
theorem cr_hs {τ : Nat → Nat} {I : cr_I} {i t : Nat} (hs : cr_sok I) (hi : i < 100000) (ht : t < 100000) : (f_yX3_hasStrangerAhead τ (nI i) (nI t) I = 0) ↔ ¬ cr_hsP I i t := by
  obtain ⟨h13, h14, h15⟩ := hs
  obtain ⟨e13, -⟩ := cr_ofI (B := 5) h13.1 h13.2
  obtain ⟨e14, -⟩ := cr_ofI (B := 31) h14.1 (by omega)
  obtain ⟨e15, -⟩ := cr_ofI (B := 31) (x := I 27 15) (by omega) h15
  have b13 : (I 27 13).toNatClampNeg ≤ 5 := by show (I 27 13).toInt.toNat ≤ 5; omega
  have b14 : (I 27 14).toNatClampNeg ≤ 31 := by show (I 27 14).toInt.toNat ≤ 31; omega
  have b15 : (I 27 15).toNatClampNeg ≤ 31 := by show (I 27 15).toInt.toNat ≤ 31; omega
  unfold cr_hsP f_yX3_hasStrangerAhead
  generalize (I 27 13).toNatClampNeg = L at *
  generalize (I 27 14).toNatClampNeg = fr at *
  generalize (I 27 15).toNatClampNeg = to at *
  have c1 : (nI i ≤ 0) ↔ i = 0 := by rw [← nI_0, cr_nlq hi (by omega)]; omega
  have c2 : (nI i = I 27 13) ↔ i = L := by rw [e13]; exact cr_neq hi (by omega)
  have c3 : (nI t < I 27 14) ↔ t < fr := by rw [e14]; exact cr_nlt ht (by omega)
  have c4 : (I 27 15 < nI t) ↔ to < t := by rw [e15]; exact cr_nlt (by omega) ht
  simp only [c1, c2, c3, c4]
  by_cases q1 : i = 0
  · rw [if_pos q1]; exact ⟨fun _ z => by omega, fun _ => rfl⟩
  · rw [if_neg q1]
    by_cases q2 : i = L
    · rw [if_pos q2]
      by_cases q3 : t < fr
      · rw [if_pos q3]; exact ⟨fun _ z => by omega, fun _ => rfl⟩
      · rw [if_neg q3]
        by_cases q4 : to < t
        · rw [if_pos q4]; exact ⟨fun _ z => by omega, fun _ => rfl⟩
        · rw [if_neg q4]; exact ⟨fun z => absurd z (by decide), fun z => absurd ⟨by omega, by omega, by omega, by omega⟩ z⟩
    · rw [if_neg q2]; exact ⟨fun _ z => by omega, fun _ => rfl⟩
def t_yX4_meetStranger (τ : Nat → Nat) (x2 : Int32) (I : cr_I) (Q : cr_I → Prop) : Prop := ∀ v1 : Int32, v1 = (I 27 13) → ((v1 ≤ 0 → Q I) ∧ (¬ v1 ≤ 0 → (((I 27 1) ≤ v1 → Q I) ∧ (¬ (I 27 1) ≤ v1 → ((0 ≤ v1.toInt ∧ v1.toInt < 6) ∧ (0 ≤ x2.toInt ∧ x2.toInt < 33) ∧ (∀ J1 : cr_I, J1 = cr_up I 137 9 ((I (146 + v1.toNatClampNeg) x2.toNatClampNeg) / (2 : Int32)) → Q J1))))))
abbrev T_yX4_meetStranger : cr_T := fun vs I R K => ∃ (τ : Nat → Nat) (x2 : Int32) (Q : cr_I → Prop), R = cr_rf τ ∧ cr_tau τ ∧ vs = [.ref 137, .ref 27, .int x2] ∧ t_yX4_meetStranger τ x2 I Q ∧ ∀ J, Q J → K none J (cr_rf τ)
theorem C_yX4_meetStranger : cr_C yX4_meetStranger cX4_meetStranger 4 none (cr_rm0 0 0) 247 247 T_yX4_meetStranger := by
  refine cr_C.of (by decide +kernel) (fun vs I R K hT => ?_) (fun Γ K h vs I R hT => ?_)
  · obtain ⟨τ, x2, Q, rfl, hτ, rfl, hyp, hK⟩ := hT
    exact Nat.le_of_ble_eq_true rfl
  · obtain ⟨τ, x2, Q, rfl, hτ, rfl, hyp, hK⟩ := hT
    unfold t_yX4_meetStranger at hyp
    show cr_V Γ 0 [.ref 137, .ref 27, .int x2, .null] [] I (cr_rf τ) 247
    refine cr_aload_n h (j := 1) rfl rfl dX4_meetStranger_0 ?_
    refine cr_getI h (k := 13) cr_clsX3 (by decide) rfl rfl wf_X4_126 (by decide) rfl dX4_meetStranger_1 ?_
    refine cs_i_n h 3 rfl (by decide) rfl dX4_meetStranger_4 (fun v1 ev1 => ?_)
    have hyp := hyp v1 ev1
    show cr_V Γ 5 [.ref 137, .ref 27, .int x2, .int v1] [] I (cr_rf τ) 247
    refine cr_iload_n h (j := 3) rfl rfl dX4_meetStranger_5 ?_
    refine cr_if_le h (tgt := 31) (by decide) dX4_meetStranger_6 (fun c1 => ?_) (fun c1 => ?_)
    · have hyp := hyp.1 c1
      refine cr_vret h rfl rfl dX4_meetStranger_31 ?_
      exact hK _ hyp
    · have hyp := hyp.2 c1
      refine cr_iload_n h (j := 3) rfl rfl dX4_meetStranger_9 ?_
      refine cr_aload_n h (j := 1) rfl rfl dX4_meetStranger_10 ?_
      refine cr_getI h (k := 1) cr_clsX3 (by decide) rfl rfl wf_X4_69 (by decide) rfl dX4_meetStranger_11 ?_
      refine cr_icmp_ge h (tgt := 31) (by decide) dX4_meetStranger_14 (fun c2 => ?_) (fun c2 => ?_)
      · have hyp := hyp.1 c2
        refine cr_vret h rfl rfl dX4_meetStranger_31 ?_
        exact hK _ hyp
      · have hyp := hyp.2 c2
        refine cr_aload_n h (j := 0) rfl rfl dX4_meetStranger_17 ?_
        refine cr_aload_n h (j := 0) rfl rfl dX4_meetStranger_18 ?_
        refine cr_getR h (k := 1) cr_clsX4 (by decide) rfl rfl wf_X4_16 (by decide) rfl rfl dX4_meetStranger_19 ?_
        refine cr_iload_n h (j := 3) rfl rfl dX4_meetStranger_22 ?_
        have hb1 := hyp.1
        have hyp := hyp.2
        refine cr_aald h (by decide) rfl hb1 ((kr_145 hb1).2.2 τ) dX4_meetStranger_23 ?_
        refine cr_iload_n h (j := 2) rfl rfl dX4_meetStranger_24 ?_
        refine cs_ild h (kr_145 hb1).1 (kr_145 hb1).2.1 hyp.1 (q := x2.toNatClampNeg) rfl dX4_meetStranger_25 ?_
        have hyp := hyp.2
        refine cr_iconst h (v := (2 : Int32)) (by decide) dX4_meetStranger_26 ?_
        refine cr_idiv h (by decide) dX4_meetStranger_27 ?_
        refine cs_put h (k := 9) cr_clsX4 (by decide) rfl rfl rfl rfl wf_X4_42 (by decide) (by decide) rfl dX4_meetStranger_28 (fun J1 eJ1 => ?_)
        have hyp := hyp J1 eJ1
        refine cr_vret h rfl rfl dX4_meetStranger_31 ?_
        exact hK _ hyp
def t_yX4_read (τ : Nat → Nat) (x2 : Int32) (x3 : Int32) (I : cr_I) (Q : cr_I → Prop) : Prop := ∀ v1 : Int32, v1 = (f_yX3_hasStrangerAhead τ x2 x3 I) → ((v1 = 0 → ((0 ≤ (x2 - (1 : Int32)).toInt ∧ (x2 - (1 : Int32)).toInt < 6) ∧ ((0 ≤ x3.toInt ∧ x3.toInt < 33) ∧ True))) ∧ (¬ v1 = 0 → True) ∧ (∀ v2 : Int32, v2 = (if v1 = 0 then (I (139 + (x2 - (1 : Int32)).toNatClampNeg) x3.toNatClampNeg) else (I 27 16)) → ((v1 = 0 → ((0 ≤ x2.toInt ∧ x2.toInt < 6) ∧ ((0 ≤ x3.toInt ∧ x3.toInt < 33) ∧ True))) ∧ (¬ v1 = 0 → True) ∧ (∀ v3 : Int32, v3 = (if v1 = 0 then (I (146 + x2.toNatClampNeg) x3.toNatClampNeg) else (I 137 9)) → ((0 ≤ x2.toInt ∧ x2.toInt < 6) ∧ (0 ≤ x3.toInt ∧ x3.toInt < 33) ∧ (∀ v4 : Int32, v4 = (I (139 + x2.toNatClampNeg) x3.toNatClampNeg) → (∀ J1 : cr_I, J1 = cr_up I 168 0 (f_yJ9_min_7cf53 τ (99 : Int32) v3 I) → (∀ J2 : cr_I, J2 = cr_up J1 168 1 (f_yJ9_max_7cf53 τ (0 : Int32) (v4 - v2) J1) → (∀ J3 : cr_I, J3 = cr_up J2 168 2 (f_yJ9_max_7cf53 τ (0 : Int32) (v2 - v4) J2) → (∀ J4 : cr_I, J4 = cr_up J3 168 3 v4 → ((0 ≤ x3.toInt ∧ x3.toInt < 32) ∧ (∀ J5 : cr_I, J5 = cr_up J4 168 4 (J4 166 x3.toNatClampNeg) → ((0 ≤ x3.toInt ∧ x3.toInt < 32) ∧ (∀ J6 : cr_I, J6 = cr_up J5 168 5 (J5 167 x3.toNatClampNeg) → Q J6))))))))))))))
abbrev T_yX4_read : cr_T := fun vs I R K => ∃ (τ : Nat → Nat) (x2 : Int32) (x3 : Int32) (Q : cr_I → Prop), R = cr_rf τ ∧ cr_tau τ ∧ vs = [.ref 137, .ref 27, .int x2, .int x3] ∧ t_yX4_read τ x2 x3 I Q ∧ ∀ J, Q J → K none J (cr_rf τ)
theorem C_yX4_read : cr_C yX4_read cX4_read 8 none (cr_rm0 1 22) 247 247 T_yX4_read := by
  refine cr_C.of (by decide +kernel) (fun vs I R K hT => ?_) (fun Γ K h vs I R hT => ?_)
  · obtain ⟨τ, x2, x3, Q, rfl, hτ, rfl, hyp, hK⟩ := hT
    exact Nat.le_of_ble_eq_true rfl
  · obtain ⟨τ, x2, x3, Q, rfl, hτ, rfl, hyp, hK⟩ := hT
    unfold t_yX4_read at hyp
    show cr_V Γ 0 [.ref 137, .ref 27, .int x2, .int x3, .null, .null, .null, .null] [] I (cr_rf τ) 247
    refine cr_aload_n h (j := 1) rfl rfl dX4_read_0 ?_
    refine cr_iload_n h (j := 2) rfl rfl dX4_read_1 ?_
    refine cr_iload_n h (j := 3) rfl rfl dX4_read_2 ?_
    refine cr_callV h (c0 := 3) (T0 := TX3) C_yX3_hasStrangerAhead cZ_yX3_hasStrangerAhead wm_X4_132 wv_yX3_hasStrangerAhead we_yX3_hasStrangerAhead (by decide) rfl rfl (cr_rmS (by decide) (by decide)) (As := [.int x2, .int x3]) rfl (Nat.le_of_ble_eq_true rfl) dX4_read_3 ⟨τ, x2, x3, rfl, hτ, rfl, ?_⟩
    show cr_V Γ 6 [.ref 137, .ref 27, .int x2, .int x3, .null, .null, .null, .null] [.int (f_yX3_hasStrangerAhead τ x2 x3 I)] I (cr_rf τ) 247
    refine cs_i h 4 (by decide) rfl dX4_read_6 (fun v1 ev1 => ?_)
    have hyp := hyp v1 ev1
    show cr_V Γ 8 [.ref 137, .ref 27, .int x2, .int x3, .int v1, .null, .null, .null] [] I (cr_rf τ) 247
    refine cr_iload h rfl dX4_read_8 ?_
    have hsJ8 := hyp.1
    have htJ8 := hyp.2.1
    have hyp := hyp.2.2
    have J8 : cr_V Γ 30 [.ref 137, .ref 27, .int x2, .int x3, .int v1, .null, .null, .null] [.int (if v1 = 0 then (I (139 + (x2 - (1 : Int32)).toNatClampNeg) x3.toNatClampNeg) else (I 27 16))] I (cr_rf τ) 247 := by
      refine cs_i h 5 (by decide) rfl dX4_read_30 (fun v2 ev2 => ?_)
      have hyp := hyp v2 ev2
      show cr_V Γ 32 [.ref 137, .ref 27, .int x2, .int x3, .int v1, .int v2, .null, .null] [] I (cr_rf τ) 247
      refine cr_iload h rfl dX4_read_32 ?_
      have hsJ7 := hyp.1
      have htJ7 := hyp.2.1
      have hyp := hyp.2.2
      have J7 : cr_V Γ 52 [.ref 137, .ref 27, .int x2, .int x3, .int v1, .int v2, .null, .null] [.int (if v1 = 0 then (I (146 + x2.toNatClampNeg) x3.toNatClampNeg) else (I 137 9))] I (cr_rf τ) 247 := by
        refine cs_i h 6 (by decide) rfl dX4_read_52 (fun v3 ev3 => ?_)
        have hyp := hyp v3 ev3
        show cr_V Γ 54 [.ref 137, .ref 27, .int x2, .int x3, .int v1, .int v2, .int v3, .null] [] I (cr_rf τ) 247
        refine cr_aload_n h (j := 0) rfl rfl dX4_read_54 ?_
        refine cr_getR h (k := 0) cr_clsX4 (by decide) rfl rfl wf_X4_11 (by decide) rfl rfl dX4_read_55 ?_
        refine cr_iload_n h (j := 2) rfl rfl dX4_read_58 ?_
        have hb3 := hyp.1
        have hyp := hyp.2
        refine cr_aald h (by decide) rfl hb3 ((kr_138 hb3).2.2 τ) dX4_read_59 ?_
        refine cr_iload_n h (j := 3) rfl rfl dX4_read_60 ?_
        refine cs_ild h (kr_138 hb3).1 (kr_138 hb3).2.1 hyp.1 (q := x3.toNatClampNeg) rfl dX4_read_61 ?_
        have hyp := hyp.2
        refine cs_i h 7 (by decide) rfl dX4_read_62 (fun v4 ev4 => ?_)
        have hyp := hyp v4 ev4
        show cr_V Γ 64 [.ref 137, .ref 27, .int x2, .int x3, .int v1, .int v2, .int v3, .int v4] [] I (cr_rf τ) 247
        refine cr_aload_n h (j := 0) rfl rfl dX4_read_64 ?_
        refine cr_getR h (k := 8) cr_clsX4 (by decide) rfl rfl wf_X4_39 (by decide) rfl rfl dX4_read_65 ?_
        refine cr_iconst h (v := (0 : Int32)) (by decide) dX4_read_68 ?_
        refine cr_bipush h (v := (99 : Int32)) (by decide) dX4_read_69 ?_
        refine cr_iload h rfl dX4_read_71 ?_
        refine cr_callS h C_yJ9_min_7cf53 cZ_yJ9_min_7cf53 wm_X4_63 ws_yJ9_min_7cf53 (cr_rmS (by decide) (by decide)) (As := [.int (99 : Int32), .int v3]) rfl (Nat.le_of_ble_eq_true rfl) dX4_read_73 ⟨τ, (99 : Int32), v3, rfl, hτ, rfl, ?_⟩
        show cr_V Γ 76 [.ref 137, .ref 27, .int x2, .int x3, .int v1, .int v2, .int v3, .int v4] [.int (f_yJ9_min_7cf53 τ (99 : Int32) v3 I), .int (0 : Int32), .ref 168] I (cr_rf τ) 247
        refine cs_ist h (by decide) (by decide) rfl (by decide) (q := 0) (by decide) dX4_read_76 (fun J1 eJ1 => ?_)
        have hyp := hyp J1 eJ1
        refine cr_aload_n h (j := 0) rfl rfl dX4_read_77 ?_
        refine cr_getR h (k := 8) cr_clsX4 (by decide) rfl rfl wf_X4_39 (by decide) rfl rfl dX4_read_78 ?_
        refine cr_iconst h (v := (1 : Int32)) (by decide) dX4_read_81 ?_
        refine cr_iconst h (v := (0 : Int32)) (by decide) dX4_read_82 ?_
        refine cr_iload h rfl dX4_read_83 ?_
        refine cr_iload h rfl dX4_read_85 ?_
        refine cr_isub h dX4_read_87 ?_
        refine cr_callS h C_yJ9_max_7cf53 cZ_yJ9_max_7cf53 wm_X4_129 ws_yJ9_max_7cf53 (cr_rmS (by decide) (by decide)) (As := [.int (0 : Int32), .int (v4 - v2)]) rfl (Nat.le_of_ble_eq_true rfl) dX4_read_88 ⟨τ, (0 : Int32), (v4 - v2), rfl, hτ, rfl, ?_⟩
        show cr_V Γ 91 [.ref 137, .ref 27, .int x2, .int x3, .int v1, .int v2, .int v3, .int v4] [.int (f_yJ9_max_7cf53 τ (0 : Int32) (v4 - v2) J1), .int (1 : Int32), .ref 168] J1 (cr_rf τ) 247
        refine cs_ist h (by decide) (by decide) rfl (by decide) (q := 1) (by decide) dX4_read_91 (fun J2 eJ2 => ?_)
        have hyp := hyp J2 eJ2
        refine cr_aload_n h (j := 0) rfl rfl dX4_read_92 ?_
        refine cr_getR h (k := 8) cr_clsX4 (by decide) rfl rfl wf_X4_39 (by decide) rfl rfl dX4_read_93 ?_
        refine cr_iconst h (v := (2 : Int32)) (by decide) dX4_read_96 ?_
        refine cr_iconst h (v := (0 : Int32)) (by decide) dX4_read_97 ?_
        refine cr_iload h rfl dX4_read_98 ?_
        refine cr_iload h rfl dX4_read_100 ?_
        refine cr_isub h dX4_read_102 ?_
        refine cr_callS h C_yJ9_max_7cf53 cZ_yJ9_max_7cf53 wm_X4_129 ws_yJ9_max_7cf53 (cr_rmS (by decide) (by decide)) (As := [.int (0 : Int32), .int (v2 - v4)]) rfl (Nat.le_of_ble_eq_true rfl) dX4_read_103 ⟨τ, (0 : Int32), (v2 - v4), rfl, hτ, rfl, ?_⟩
        show cr_V Γ 106 [.ref 137, .ref 27, .int x2, .int x3, .int v1, .int v2, .int v3, .int v4] [.int (f_yJ9_max_7cf53 τ (0 : Int32) (v2 - v4) J2), .int (2 : Int32), .ref 168] J2 (cr_rf τ) 247
        refine cs_ist h (by decide) (by decide) rfl (by decide) (q := 2) (by decide) dX4_read_106 (fun J3 eJ3 => ?_)
        have hyp := hyp J3 eJ3
        refine cr_aload_n h (j := 0) rfl rfl dX4_read_107 ?_
        refine cr_getR h (k := 8) cr_clsX4 (by decide) rfl rfl wf_X4_39 (by decide) rfl rfl dX4_read_108 ?_
        refine cr_iconst h (v := (3 : Int32)) (by decide) dX4_read_111 ?_
        refine cr_iload h rfl dX4_read_112 ?_
        refine cs_ist h (by decide) (by decide) rfl (by decide) (q := 3) (by decide) dX4_read_114 (fun J4 eJ4 => ?_)
        have hyp := hyp J4 eJ4
        refine cr_aload_n h (j := 0) rfl rfl dX4_read_115 ?_
        refine cr_getR h (k := 8) cr_clsX4 (by decide) rfl rfl wf_X4_39 (by decide) rfl rfl dX4_read_116 ?_
        refine cr_iconst h (v := (4 : Int32)) (by decide) dX4_read_119 ?_
        refine cr_aload_n h (j := 0) rfl rfl dX4_read_120 ?_
        refine cr_getR h (k := 4) cr_clsX4 (by decide) rfl rfl wf_X4_25 (by decide) rfl rfl dX4_read_121 ?_
        refine cr_iload_n h (j := 3) rfl rfl dX4_read_124 ?_
        refine cs_ild h (by decide) rfl hyp.1 (q := x3.toNatClampNeg) rfl dX4_read_125 ?_
        have hyp := hyp.2
        refine cs_ist h (by decide) (by decide) rfl (by decide) (q := 4) (by decide) dX4_read_126 (fun J5 eJ5 => ?_)
        have hyp := hyp J5 eJ5
        refine cr_aload_n h (j := 0) rfl rfl dX4_read_127 ?_
        refine cr_getR h (k := 8) cr_clsX4 (by decide) rfl rfl wf_X4_39 (by decide) rfl rfl dX4_read_128 ?_
        refine cr_iconst h (v := (5 : Int32)) (by decide) dX4_read_131 ?_
        refine cr_aload_n h (j := 0) rfl rfl dX4_read_132 ?_
        refine cr_getR h (k := 5) cr_clsX4 (by decide) rfl rfl wf_X4_29 (by decide) rfl rfl dX4_read_133 ?_
        refine cr_iload_n h (j := 3) rfl rfl dX4_read_136 ?_
        refine cs_ild h (by decide) rfl hyp.1 (q := x3.toNatClampNeg) rfl dX4_read_137 ?_
        have hyp := hyp.2
        refine cs_ist h (by decide) (by decide) rfl (by decide) (q := 5) (by decide) dX4_read_138 (fun J6 eJ6 => ?_)
        have hyp := hyp J6 eJ6
        refine cr_vret h rfl rfl dX4_read_139 ?_
        exact hK _ hyp
      refine cr_if_eq h (tgt := 44) (by decide) dX4_read_34 (fun c2 => ?_) (fun c2 => ?_)
      · have hyp := hsJ7 c2
        refine cr_aload_n h (j := 0) rfl rfl dX4_read_44 ?_
        refine cr_getR h (k := 1) cr_clsX4 (by decide) rfl rfl wf_X4_16 (by decide) rfl rfl dX4_read_45 ?_
        refine cr_iload_n h (j := 2) rfl rfl dX4_read_48 ?_
        have hb2 := hyp.1
        have hyp := hyp.2
        refine cr_aald h (by decide) rfl hb2 ((kr_145 hb2).2.2 τ) dX4_read_49 ?_
        refine cr_iload_n h (j := 3) rfl rfl dX4_read_50 ?_
        refine cs_ild h (kr_145 hb2).1 (kr_145 hb2).2.1 hyp.1 (q := x3.toNatClampNeg) rfl dX4_read_51 ?_
        have hyp := hyp.2
        exact cr_ite (by rw [if_pos c2]) J7
      · refine cr_aload_n h (j := 0) rfl rfl dX4_read_37 ?_
        refine cr_getI h (k := 9) cr_clsX4 (by decide) rfl rfl wf_X4_42 (by decide) rfl dX4_read_38 ?_
        refine cr_goto h (tgt := 52) (by decide) dX4_read_41 ?_
        exact cr_ite (by rw [if_neg c2]) J7
    refine cr_if_eq h (tgt := 20) (by decide) dX4_read_10 (fun c1 => ?_) (fun c1 => ?_)
    · have hyp := hsJ8 c1
      refine cr_aload_n h (j := 0) rfl rfl dX4_read_20 ?_
      refine cr_getR h (k := 0) cr_clsX4 (by decide) rfl rfl wf_X4_11 (by decide) rfl rfl dX4_read_21 ?_
      refine cr_iload_n h (j := 2) rfl rfl dX4_read_24 ?_
      refine cr_iconst h (v := (1 : Int32)) (by decide) dX4_read_25 ?_
      refine cr_isub h dX4_read_26 ?_
      have hb1 := hyp.1
      have hyp := hyp.2
      refine cr_aald h (by decide) rfl hb1 ((kr_138 hb1).2.2 τ) dX4_read_27 ?_
      refine cr_iload_n h (j := 3) rfl rfl dX4_read_28 ?_
      refine cs_ild h (kr_138 hb1).1 (kr_138 hb1).2.1 hyp.1 (q := x3.toNatClampNeg) rfl dX4_read_29 ?_
      have hyp := hyp.2
      exact cr_ite (by rw [if_pos c1]) J8
    · refine cr_aload_n h (j := 1) rfl rfl dX4_read_13 ?_
      refine cr_getI h (k := 16) cr_clsX3 (by decide) rfl rfl wf_X4_136 (by decide) rfl dX4_read_14 ?_
      refine cr_goto h (tgt := 30) (by decide) dX4_read_17 ?_
      exact cr_ite (by rw [if_neg c1]) J8
def f_yX4_speedBehind (τ : Nat → Nat) (x2 : Int32) (x3 : Int32) (I : cr_I) : Int32 := (f_yJ9_max_7cf53 τ (0 : Int32) (f_yJ9_min_7cf53 τ ((f_yX3_mostSpeed τ (I (f_yX3_makeOfLorry τ x2 I) 0) (I (153 + x2.toNatClampNeg) x3.toNatClampNeg) I)) ((I (139 + x2.toNatClampNeg) x3.toNatClampNeg) + ((if 0 ≤ ((x3 - (I (f_yX3_makeOfLorry τ x2 I) 3))) then (I (160 + x2.toNatClampNeg) ((x3 - (I (f_yX3_makeOfLorry τ x2 I) 3))).toNatClampNeg) else (0 : Int32)))) I) I)
def p_yX4_speedBehind (τ : Nat → Nat) (x2 : Int32) (x3 : Int32) (I : cr_I) : Prop := p_yX3_makeOfLorry τ x2 I ∧ ∀ v1 : Int32, v1 = (x3 - (I (f_yX3_makeOfLorry τ x2 I) 3)) → (0 ≤ v1 → ((0 ≤ x2.toInt ∧ x2.toInt < 6) ∧ ((0 ≤ v1.toInt ∧ v1.toInt < 32) ∧ True))) ∧ (¬ 0 ≤ v1 → True) ∧ ∀ v2 : Int32, v2 = (if 0 ≤ v1 then (I (160 + x2.toNatClampNeg) v1.toNatClampNeg) else (0 : Int32)) → (0 ≤ x2.toInt ∧ x2.toInt < 6) ∧ (0 ≤ x3.toInt ∧ x3.toInt < 33) ∧ p_yX3_mostSpeed τ (I (f_yX3_makeOfLorry τ x2 I) 0) (I (153 + x2.toNatClampNeg) x3.toNatClampNeg) I ∧ ∀ v3 : Int32, v3 = (f_yX3_mostSpeed τ (I (f_yX3_makeOfLorry τ x2 I) 0) (I (153 + x2.toNatClampNeg) x3.toNatClampNeg) I) → (0 ≤ x2.toInt ∧ x2.toInt < 6) ∧ (0 ≤ x3.toInt ∧ x3.toInt < 33) ∧ True
abbrev T_yX4_speedBehind : cr_T := fun vs I R K => ∃ (τ : Nat → Nat) (x2 : Int32) (x3 : Int32), R = cr_rf τ ∧ cr_tau τ ∧ vs = [.ref 137, .ref 27, .int x2, .int x3] ∧ p_yX4_speedBehind τ x2 x3 I ∧ K (some (.int (f_yX4_speedBehind τ x2 x3 I))) I (cr_rf τ)
theorem C_yX4_speedBehind : cr_C yX4_speedBehind cX4_speedBehind 8 (some .int) (cr_rm0 2 46) 247 247 T_yX4_speedBehind := by
  refine cr_C.of (by decide +kernel) (fun vs I R K hT => ?_) (fun Γ K h vs I R hT => ?_)
  · obtain ⟨τ, x2, x3, rfl, hτ, rfl, hyp, hK⟩ := hT
    exact Nat.le_of_ble_eq_true rfl
  · obtain ⟨τ, x2, x3, rfl, hτ, rfl, hyp, hK⟩ := hT
    show cr_V Γ 0 [.ref 137, .ref 27, .int x2, .int x3, .null, .null, .null, .null] [] I (cr_rf τ) 247
    refine cr_aload_n h (j := 1) rfl rfl dX4_speedBehind_0 ?_
    refine cr_iload_n h (j := 2) rfl rfl dX4_speedBehind_1 ?_
    have hp1 := hyp.1
    refine cr_callV h (c0 := 3) (T0 := TX3) C_yX3_makeOfLorry cZ_yX3_makeOfLorry wm_X4_74 wv_yX3_makeOfLorry we_yX3_makeOfLorry (by decide) rfl rfl (cr_rmS (by decide) (by decide)) (As := [.int x2]) rfl (Nat.le_of_ble_eq_true rfl) dX4_speedBehind_2 ⟨τ, x2, rfl, hτ, rfl, hyp.1, ?_⟩
    have hyp := hyp.2
    show cr_V Γ 5 [.ref 137, .ref 27, .int x2, .int x3, .null, .null, .null, .null] [.ref (f_yX3_makeOfLorry τ x2 I)] I (cr_rf τ) 247
    refine cr_astore h (by decide) rfl dX4_speedBehind_5 ?_
    show cr_V Γ 7 [.ref 137, .ref 27, .int x2, .int x3, .ref (f_yX3_makeOfLorry τ x2 I), .null, .null, .null] [] I (cr_rf τ) 247
    refine cr_iload_n h (j := 3) rfl rfl dX4_speedBehind_7 ?_
    refine cr_aload h rfl dX4_speedBehind_8 ?_
    refine cr_getI h (k := 3) cr_clsX2 (by decide) rfl rfl wf_X4_139 (mo_ok hp1).1 (mo_ok hp1).2.1 dX4_speedBehind_10 ?_
    refine cr_isub h dX4_speedBehind_13 ?_
    refine cs_i h 5 (by decide) rfl dX4_speedBehind_14 (fun v1 ev1 => ?_)
    have hyp := hyp v1 ev1
    show cr_V Γ 16 [.ref 137, .ref 27, .int x2, .int x3, .ref (f_yX3_makeOfLorry τ x2 I), .int v1, .null, .null] [] I (cr_rf τ) 247
    refine cr_iload h rfl dX4_speedBehind_16 ?_
    have hsJ1 := hyp.1
    have htJ1 := hyp.2.1
    have hyp := hyp.2.2
    have J1 : cr_V Γ 34 [.ref 137, .ref 27, .int x2, .int x3, .ref (f_yX3_makeOfLorry τ x2 I), .int v1, .null, .null] [.int (if 0 ≤ v1 then (I (160 + x2.toNatClampNeg) v1.toNatClampNeg) else (0 : Int32))] I (cr_rf τ) 247 := by
      refine cs_i h 6 (by decide) rfl dX4_speedBehind_34 (fun v2 ev2 => ?_)
      have hyp := hyp v2 ev2
      show cr_V Γ 36 [.ref 137, .ref 27, .int x2, .int x3, .ref (f_yX3_makeOfLorry τ x2 I), .int v1, .int v2, .null] [] I (cr_rf τ) 247
      refine cr_aload_n h (j := 1) rfl rfl dX4_speedBehind_36 ?_
      refine cr_aload h rfl dX4_speedBehind_37 ?_
      refine cr_getI h (k := 0) cr_clsX2 (by decide) rfl rfl wf_X4_78 (mo_ok hp1).1 (mo_ok hp1).2.1 dX4_speedBehind_39 ?_
      refine cr_aload_n h (j := 0) rfl rfl dX4_speedBehind_42 ?_
      refine cr_getR h (k := 2) cr_clsX4 (by decide) rfl rfl wf_X4_19 (by decide) rfl rfl dX4_speedBehind_43 ?_
      refine cr_iload_n h (j := 2) rfl rfl dX4_speedBehind_46 ?_
      have hb2 := hyp.1
      have hyp := hyp.2
      refine cr_aald h (by decide) rfl hb2 ((kr_152 hb2).2.2 τ) dX4_speedBehind_47 ?_
      refine cr_iload_n h (j := 3) rfl rfl dX4_speedBehind_48 ?_
      refine cs_ild h (kr_152 hb2).1 (kr_152 hb2).2.1 hyp.1 (q := x3.toNatClampNeg) rfl dX4_speedBehind_49 ?_
      have hyp := hyp.2
      refine cr_callV h (c0 := 3) (T0 := TX3) C_yX3_mostSpeed cZ_yX3_mostSpeed wm_X4_142 wv_yX3_mostSpeed we_yX3_mostSpeed (by decide) rfl rfl (cr_rmS (by decide) (by decide)) (As := [.int (I (f_yX3_makeOfLorry τ x2 I) 0), .int (I (153 + x2.toNatClampNeg) x3.toNatClampNeg)]) rfl (Nat.le_of_ble_eq_true rfl) dX4_speedBehind_50 ⟨τ, (I (f_yX3_makeOfLorry τ x2 I) 0), (I (153 + x2.toNatClampNeg) x3.toNatClampNeg), rfl, hτ, rfl, hyp.1, ?_⟩
      have hyp := hyp.2
      show cr_V Γ 53 [.ref 137, .ref 27, .int x2, .int x3, .ref (f_yX3_makeOfLorry τ x2 I), .int v1, .int v2, .null] [.int (f_yX3_mostSpeed τ (I (f_yX3_makeOfLorry τ x2 I) 0) (I (153 + x2.toNatClampNeg) x3.toNatClampNeg) I)] I (cr_rf τ) 247
      refine cs_i h 7 (by decide) rfl dX4_speedBehind_53 (fun v3 ev3 => ?_)
      have hyp := hyp v3 ev3
      show cr_V Γ 55 [.ref 137, .ref 27, .int x2, .int x3, .ref (f_yX3_makeOfLorry τ x2 I), .int v1, .int v2, .int v3] [] I (cr_rf τ) 247
      refine cr_iconst h (v := (0 : Int32)) (by decide) dX4_speedBehind_55 ?_
      refine cr_iload h rfl dX4_speedBehind_56 ?_
      refine cr_aload_n h (j := 0) rfl rfl dX4_speedBehind_58 ?_
      refine cr_getR h (k := 0) cr_clsX4 (by decide) rfl rfl wf_X4_11 (by decide) rfl rfl dX4_speedBehind_59 ?_
      refine cr_iload_n h (j := 2) rfl rfl dX4_speedBehind_62 ?_
      have hb3 := hyp.1
      have hyp := hyp.2
      refine cr_aald h (by decide) rfl hb3 ((kr_138 hb3).2.2 τ) dX4_speedBehind_63 ?_
      refine cr_iload_n h (j := 3) rfl rfl dX4_speedBehind_64 ?_
      refine cs_ild h (kr_138 hb3).1 (kr_138 hb3).2.1 hyp.1 (q := x3.toNatClampNeg) rfl dX4_speedBehind_65 ?_
      have hyp := hyp.2
      refine cr_iload h rfl dX4_speedBehind_66 ?_
      refine cr_iadd h dX4_speedBehind_68 ?_
      refine cr_callS h C_yJ9_min_7cf53 cZ_yJ9_min_7cf53 wm_X4_63 ws_yJ9_min_7cf53 (cr_rmS (by decide) (by decide)) (As := [.int v3, .int ((I (139 + x2.toNatClampNeg) x3.toNatClampNeg) + v2)]) rfl (Nat.le_of_ble_eq_true rfl) dX4_speedBehind_69 ⟨τ, v3, ((I (139 + x2.toNatClampNeg) x3.toNatClampNeg) + v2), rfl, hτ, rfl, ?_⟩
      show cr_V Γ 72 [.ref 137, .ref 27, .int x2, .int x3, .ref (f_yX3_makeOfLorry τ x2 I), .int v1, .int v2, .int v3] [.int (f_yJ9_min_7cf53 τ v3 ((I (139 + x2.toNatClampNeg) x3.toNatClampNeg) + v2) I), .int (0 : Int32)] I (cr_rf τ) 247
      refine cr_callS h C_yJ9_max_7cf53 cZ_yJ9_max_7cf53 wm_X4_129 ws_yJ9_max_7cf53 (cr_rmS (by decide) (by decide)) (As := [.int (0 : Int32), .int (f_yJ9_min_7cf53 τ v3 ((I (139 + x2.toNatClampNeg) x3.toNatClampNeg) + v2) I)]) rfl (Nat.le_of_ble_eq_true rfl) dX4_speedBehind_72 ⟨τ, (0 : Int32), (f_yJ9_min_7cf53 τ v3 ((I (139 + x2.toNatClampNeg) x3.toNatClampNeg) + v2) I), rfl, hτ, rfl, ?_⟩
      show cr_V Γ 75 [.ref 137, .ref 27, .int x2, .int x3, .ref (f_yX3_makeOfLorry τ x2 I), .int v1, .int v2, .int v3] [.int (f_yJ9_max_7cf53 τ (0 : Int32) (f_yJ9_min_7cf53 τ v3 ((I (139 + x2.toNatClampNeg) x3.toNatClampNeg) + v2) I) I)] I (cr_rf τ) 247
      refine cr_iret h rfl rfl rfl dX4_speedBehind_75 ?_
      subst ev1
      subst ev2
      subst ev3
      rw [f_yX4_speedBehind] at hK
      exact hK
    refine cr_if_ge h (tgt := 25) (by decide) dX4_speedBehind_18 (fun c1 => ?_) (fun c1 => ?_)
    · have hyp := hsJ1 c1
      refine cr_aload_n h (j := 0) rfl rfl dX4_speedBehind_25 ?_
      refine cr_getR h (k := 3) cr_clsX4 (by decide) rfl rfl wf_X4_22 (by decide) rfl rfl dX4_speedBehind_26 ?_
      refine cr_iload_n h (j := 2) rfl rfl dX4_speedBehind_29 ?_
      have hb1 := hyp.1
      have hyp := hyp.2
      refine cr_aald h (by decide) rfl hb1 ((kr_159 hb1).2.2 τ) dX4_speedBehind_30 ?_
      refine cr_iload h rfl dX4_speedBehind_31 ?_
      refine cs_ild h (kr_159 hb1).1 (kr_159 hb1).2.1 hyp.1 (q := v1.toNatClampNeg) rfl dX4_speedBehind_33 ?_
      have hyp := hyp.2
      exact cr_ite (by rw [if_pos c1]) J1
    · refine cr_iconst h (v := (0 : Int32)) (by decide) dX4_speedBehind_21 ?_
      refine cr_goto h (tgt := 34) (by decide) dX4_speedBehind_22 ?_
      exact cr_ite (by rw [if_neg c1]) J1
theorem cw_read {τ : Nat → Nat} {I : cr_I} {i t : Nat} {Q : cr_I → Prop} (hi : 1 ≤ i ∧ i < 6) (ht : t < 32) (hs : cr_sok I) (own ahead gap : Int32) (e0 : own = I (139 + i) t) (e1 : ahead = if cr_hsP I i t then I 27 16 else I (139 + (i - 1)) t) (e2 : gap = if cr_hsP I i t then I 137 9 else I (146 + i) t)
    (hQ : ∀ J, (∀ b k, b ≠ 168 → J b k = I b k) → J 168 0 = (if gap < 99 then gap else 99) → J 168 1 = (if 0 < own - ahead then own - ahead else 0) → J 168 2 = (if 0 < ahead - own then ahead - own else 0) → J 168 3 = own → J 168 4 = I 166 t → J 168 5 = I 167 t → Q J) : t_yX4_read τ (nI i) (nI t) I Q := by
  have hxi : (0 : Int) ≤ (nI i).toInt ∧ (nI i).toInt < 6 := cr_ix (by omega) (by omega)
  have hxi1 : (0 : Int) ≤ (nI i - 1).toInt ∧ (nI i - 1).toInt < 6 := by
    rw [show i = (i - 1) + 1 by omega, nI_pred]
    exact cr_ix (by omega) (by omega)
  have hxi1c : (nI i - 1).toNatClampNeg = i - 1 := by
    rw [show i = (i - 1) + 1 by omega, nI_pred]
    exact cr_nc (by omega)
  have hxt : (0 : Int) ≤ (nI t).toInt ∧ (nI t).toInt < 33 := cr_ix (by omega) (by omega)
  have hxt2 : (0 : Int) ≤ (nI t).toInt ∧ (nI t).toInt < 32 := cr_ix (by omega) (by omega)
  have hstr := cr_hs (τ := τ) (I := I) (i := i) (t := t) hs (by omega) (by omega)
  unfold t_yX4_read
  rw [hxi1c, cr_nc (show i < 100000 by omega), cr_nc (show t < 100000 by omega)]
  intro v1 ev1
  have hv : (v1 = 0) ↔ ¬ cr_hsP I i t := by rw [ev1]; exact hstr
  refine ⟨fun _ => ⟨hxi1, hxt, trivial⟩, fun _ => trivial, ?_⟩
  have ea : (if v1 = 0 then I (139 + (i - 1)) t else I 27 16) = ahead := by
    rw [e1]
    by_cases q : cr_hsP I i t
    · rw [if_pos q, if_neg (fun z => hv.mp z q)]
    · rw [if_neg q, if_pos (hv.mpr q)]
  have eg : (if v1 = 0 then I (146 + i) t else I 137 9) = gap := by
    rw [e2]
    by_cases q : cr_hsP I i t
    · rw [if_pos q, if_neg (fun z => hv.mp z q)]
    · rw [if_neg q, if_pos (hv.mpr q)]
  rw [ea, eg]
  rintro v2 rfl
  refine ⟨fun _ => ⟨hxi, hxt, trivial⟩, fun _ => trivial, ?_⟩
  rintro v3 rfl
  refine ⟨hxi, hxt, ?_⟩
  rw [← e0]
  rintro v4 rfl J1 rfl J2 rfl J3 rfl J4 rfl
  refine ⟨hxt2, ?_⟩
  rintro J5 rfl
  refine ⟨hxt2, ?_⟩
  rintro J6 rfl
  refine hQ _ (fun b k hb => ?_) ?_ ?_ ?_ ?_ ?_ ?_
  · rw [cr_up_b hb, cr_up_b hb, cr_up_b hb, cr_up_b hb, cr_up_b hb, cr_up_b hb]
  · rw [cr_up_k (by decide), cr_up_k (by decide), cr_up_k (by decide), cr_up_k (by decide), cr_up_k (by decide), cr_up_s]
    rfl
  · rw [cr_up_k (by decide), cr_up_k (by decide), cr_up_k (by decide), cr_up_k (by decide), cr_up_s]
    rfl
  · rw [cr_up_k (by decide), cr_up_k (by decide), cr_up_k (by decide), cr_up_s]
    rfl
  · rw [cr_up_k (by decide), cr_up_k (by decide), cr_up_s]
  · rw [cr_up_k (by decide), cr_up_s, cr_up_b (by decide), cr_up_b (by decide), cr_up_b (by decide), cr_up_b (by decide)]
  · rw [cr_up_s, cr_up_b (by decide), cr_up_b (by decide), cr_up_b (by decide), cr_up_b (by decide), cr_up_b (by decide)]
/-! going on -/
def cr_PG (t b k : Nat) : Prop := (b = 137 ∧ k = 9) ∨ (((153 ≤ b ∧ b ≤ 158) ∨ (146 ≤ b ∧ b ≤ 151)) ∧ k = t + 1)
def p_yX4_go (τ : Nat → Nat) (x2 : Int32) (I : cr_I) : Prop := cr_nok I ∧ cr_sok I ∧ (0 ≤ x2.toInt ∧ x2.toInt ≤ 31)
def q_yX4_go (τ : Nat → Nat) (x2 : Int32) (I J : cr_I) : Prop := (∀ i, i < cr_cn0 I → J (153 + i) (x2.toNatClampNeg + 1) = I (153 + i) x2.toNatClampNeg + I (139 + i) (x2.toNatClampNeg + 1)) ∧ (∀ i, 1 ≤ i → i < cr_cn0 I → J (146 + i) (x2.toNatClampNeg + 1) = I (146 + i) x2.toNatClampNeg + I (139 + (i - 1)) (x2.toNatClampNeg + 1) - I (139 + i) (x2.toNatClampNeg + 1)) ∧ J 137 9 = (if cr_hsP I (I 27 13).toNatClampNeg x2.toNatClampNeg ∧ (I 27 13).toNatClampNeg < cr_cn0 I then I 137 9 + (I 27 16 - I (139 + (I 27 13).toNatClampNeg) (x2.toNatClampNeg + 1)) else I 137 9) ∧ cr_F (cr_PG x2.toNatClampNeg) I J
theorem bk_yX4_go_0 {Γ : cr_G} {K : cr_K} {τ : Nat → Nat} {I : cr_I} {x2 : Int32} (hτ : cr_tau τ)  (h : cr_Ok yX4_go cX4_go 5 none (cr_rm0 1 22) K 247 247 Γ) (hyp : cr_V Γ 2 [.ref 137, .ref 27, .int x2, .int (0 : Int32), .null] [] I (cr_rf τ) 247) : cr_V Γ 0 [.ref 137, .ref 27, .int x2, .null, .null] [] I (cr_rf τ) 247 := by
  refine cr_iconst h (v := (0 : Int32)) (by decide) dX4_go_0 ?_
  refine cr_istore_n h (j := 3) rfl (by decide) rfl dX4_go_1 ?_
  show cr_V Γ 2 [.ref 137, .ref 27, .int x2, .int (0 : Int32), .null] [] I (cr_rf τ) 247
  exact cr_weak [true, true, true, true, false] hyp
theorem bk_yX4_go_2 {Γ : cr_G} {K : cr_K} {τ : Nat → Nat} {I : cr_I} {x2 : Int32} {x3 : Int32} (hτ : cr_tau τ)  (h : cr_Ok yX4_go cX4_go 5 none (cr_rm0 1 22) K 247 247 Γ) (hyp : ((I 27 1) ≤ x3 → K none I (cr_rf τ)) ∧ (¬ (I 27 1) ≤ x3 → ((0 ≤ x3.toInt ∧ x3.toInt < 6) ∧ (0 ≤ (x2 + (1 : Int32)).toInt ∧ (x2 + (1 : Int32)).toInt < 33) ∧ (∀ v1 : Int32, v1 = (I (139 + x3.toNatClampNeg) (x2 + (1 : Int32)).toNatClampNeg) → ((0 ≤ x3.toInt ∧ x3.toInt < 6) ∧ (0 ≤ x3.toInt ∧ x3.toInt < 6) ∧ (0 ≤ x2.toInt ∧ x2.toInt < 33) ∧ (0 ≤ (x2 + (1 : Int32)).toInt ∧ (x2 + (1 : Int32)).toInt < 33) ∧ (∀ J1 : cr_I, J1 = cr_up I (153 + x3.toNatClampNeg) ((x2 + (1 : Int32)).toNatClampNeg) ((I (153 + x3.toNatClampNeg) x2.toNatClampNeg) + v1) → ((x3 ≤ 0 → (((f_yX3_hasStrangerAhead τ x3 x2 J1) = 0 → (∀ v2 : Int32, v2 = x3 + (1 : Int32) → cr_V Γ 2 [.ref 137, .ref 27, .int x2, .int v2, .null] [] J1 (cr_rf τ) 247)) ∧ (¬ (f_yX3_hasStrangerAhead τ x3 x2 J1) = 0 → (∀ J2 : cr_I, J2 = cr_up J1 137 9 ((J1 137 9) + ((J1 27 16) - v1)) → (∀ v3 : Int32, v3 = x3 + (1 : Int32) → cr_V Γ 2 [.ref 137, .ref 27, .int x2, .int v3, .null] [] J2 (cr_rf τ) 247))))) ∧ (¬ x3 ≤ 0 → ((0 ≤ x3.toInt ∧ x3.toInt < 6) ∧ (0 ≤ x3.toInt ∧ x3.toInt < 6) ∧ (0 ≤ x2.toInt ∧ x2.toInt < 33) ∧ (0 ≤ (x3 - (1 : Int32)).toInt ∧ (x3 - (1 : Int32)).toInt < 6) ∧ (0 ≤ (x2 + (1 : Int32)).toInt ∧ (x2 + (1 : Int32)).toInt < 33) ∧ (0 ≤ (x2 + (1 : Int32)).toInt ∧ (x2 + (1 : Int32)).toInt < 33) ∧ (∀ J3 : cr_I, J3 = cr_up J1 (146 + x3.toNatClampNeg) ((x2 + (1 : Int32)).toNatClampNeg) (((J1 (146 + x3.toNatClampNeg) x2.toNatClampNeg) + (J1 (139 + (x3 - (1 : Int32)).toNatClampNeg) (x2 + (1 : Int32)).toNatClampNeg)) - v1) → (((f_yX3_hasStrangerAhead τ x3 x2 J3) = 0 → (∀ v4 : Int32, v4 = x3 + (1 : Int32) → cr_V Γ 2 [.ref 137, .ref 27, .int x2, .int v4, .null] [] J3 (cr_rf τ) 247)) ∧ (¬ (f_yX3_hasStrangerAhead τ x3 x2 J3) = 0 → (∀ J4 : cr_I, J4 = cr_up J3 137 9 ((J3 137 9) + ((J3 27 16) - v1)) → (∀ v5 : Int32, v5 = x3 + (1 : Int32) → cr_V Γ 2 [.ref 137, .ref 27, .int x2, .int v5, .null] [] J4 (cr_rf τ) 247)))))))))))))) : cr_V Γ 2 [.ref 137, .ref 27, .int x2, .int x3, .null] [] I (cr_rf τ) 247 := by
  refine cr_iload_n h (j := 3) rfl rfl dX4_go_2 ?_
  refine cr_aload_n h (j := 1) rfl rfl dX4_go_3 ?_
  refine cr_getI h (k := 1) cr_clsX3 (by decide) rfl rfl wf_X4_69 (by decide) rfl dX4_go_4 ?_
  refine cr_icmp_ge h (tgt := 112) (by decide) dX4_go_7 (fun c1 => ?_) (fun c1 => ?_)
  · have hyp := hyp.1 c1
    refine cr_vret h rfl rfl dX4_go_112 ?_
    exact hyp
  · have hyp := hyp.2 c1
    refine cr_aload_n h (j := 0) rfl rfl dX4_go_10 ?_
    refine cr_getR h (k := 0) cr_clsX4 (by decide) rfl rfl wf_X4_11 (by decide) rfl rfl dX4_go_11 ?_
    refine cr_iload_n h (j := 3) rfl rfl dX4_go_14 ?_
    have hb1 := hyp.1
    have hyp := hyp.2
    refine cr_aald h (by decide) rfl hb1 ((kr_138 hb1).2.2 τ) dX4_go_15 ?_
    refine cr_iload_n h (j := 2) rfl rfl dX4_go_16 ?_
    refine cr_iconst h (v := (1 : Int32)) (by decide) dX4_go_17 ?_
    refine cr_iadd h dX4_go_18 ?_
    refine cs_ild h (kr_138 hb1).1 (kr_138 hb1).2.1 hyp.1 (q := (x2 + (1 : Int32)).toNatClampNeg) rfl dX4_go_19 ?_
    have hyp := hyp.2
    refine cs_i h 4 (by decide) rfl dX4_go_20 (fun v1 ev1 => ?_)
    have hyp := hyp v1 ev1
    show cr_V Γ 22 [.ref 137, .ref 27, .int x2, .int x3, .int v1] [] I (cr_rf τ) 247
    refine cr_aload_n h (j := 0) rfl rfl dX4_go_22 ?_
    refine cr_getR h (k := 2) cr_clsX4 (by decide) rfl rfl wf_X4_19 (by decide) rfl rfl dX4_go_23 ?_
    refine cr_iload_n h (j := 3) rfl rfl dX4_go_26 ?_
    have hb2 := hyp.1
    have hyp := hyp.2
    refine cr_aald h (by decide) rfl hb2 ((kr_152 hb2).2.2 τ) dX4_go_27 ?_
    refine cr_iload_n h (j := 2) rfl rfl dX4_go_28 ?_
    refine cr_iconst h (v := (1 : Int32)) (by decide) dX4_go_29 ?_
    refine cr_iadd h dX4_go_30 ?_
    refine cr_aload_n h (j := 0) rfl rfl dX4_go_31 ?_
    refine cr_getR h (k := 2) cr_clsX4 (by decide) rfl rfl wf_X4_19 (by decide) rfl rfl dX4_go_32 ?_
    refine cr_iload_n h (j := 3) rfl rfl dX4_go_35 ?_
    have hb3 := hyp.1
    have hyp := hyp.2
    refine cr_aald h (by decide) rfl hb3 ((kr_152 hb3).2.2 τ) dX4_go_36 ?_
    refine cr_iload_n h (j := 2) rfl rfl dX4_go_37 ?_
    refine cs_ild h (kr_152 hb3).1 (kr_152 hb3).2.1 hyp.1 (q := x2.toNatClampNeg) rfl dX4_go_38 ?_
    have hyp := hyp.2
    refine cr_iload h rfl dX4_go_39 ?_
    refine cr_iadd h dX4_go_41 ?_
    refine cs_ist h (kr_152 hb2).1 (by decide) (kr_152 hb2).2.1 hyp.1 (q := (x2 + (1 : Int32)).toNatClampNeg) rfl dX4_go_42 (fun J1 eJ1 => ?_)
    have hyp := hyp.2 J1 eJ1
    refine cr_iload_n h (j := 3) rfl rfl dX4_go_43 ?_
    refine cr_if_le h (tgt := 81) (by decide) dX4_go_44 (fun c2 => ?_) (fun c2 => ?_)
    · have hyp := hyp.1 c2
      refine cr_aload_n h (j := 1) rfl rfl dX4_go_81 ?_
      refine cr_iload_n h (j := 3) rfl rfl dX4_go_82 ?_
      refine cr_iload_n h (j := 2) rfl rfl dX4_go_83 ?_
      refine cr_callV h (c0 := 3) (T0 := TX3) C_yX3_hasStrangerAhead cZ_yX3_hasStrangerAhead wm_X4_132 wv_yX3_hasStrangerAhead we_yX3_hasStrangerAhead (by decide) rfl rfl (cr_rmS (by decide) (by decide)) (As := [.int x3, .int x2]) rfl (Nat.le_of_ble_eq_true rfl) dX4_go_84 ⟨τ, x3, x2, rfl, hτ, rfl, ?_⟩
      show cr_V Γ 87 [.ref 137, .ref 27, .int x2, .int x3, .int v1] [.int (f_yX3_hasStrangerAhead τ x3 x2 J1)] J1 (cr_rf τ) 247
      refine cr_if_eq h (tgt := 106) (by decide) dX4_go_87 (fun c3 => ?_) (fun c3 => ?_)
      · have hyp := hyp.1 c3
        refine cs_inc h (v := (1 : Int32)) 3 rfl (by decide) (by decide) rfl dX4_go_106 (fun v2 ev2 => ?_)
        have hyp := hyp v2 ev2
        show cr_V Γ 109 [.ref 137, .ref 27, .int x2, .int v2, .int v1] [] J1 (cr_rf τ) 247
        refine cr_goto h (tgt := 2) (by decide) dX4_go_109 ?_
        exact cr_weak [true, true, true, true, false] hyp
      · have hyp := hyp.2 c3
        refine cr_aload_n h (j := 0) rfl rfl dX4_go_90 ?_
        refine cr_dup h rfl dX4_go_91 ?_
        refine cr_getI h (k := 9) cr_clsX4 (by decide) rfl rfl wf_X4_42 (by decide) rfl dX4_go_92 ?_
        refine cr_aload_n h (j := 1) rfl rfl dX4_go_95 ?_
        refine cr_getI h (k := 16) cr_clsX3 (by decide) rfl rfl wf_X4_136 (by decide) rfl dX4_go_96 ?_
        refine cr_iload h rfl dX4_go_99 ?_
        refine cr_isub h dX4_go_101 ?_
        refine cr_iadd h dX4_go_102 ?_
        refine cs_put h (k := 9) cr_clsX4 (by decide) rfl rfl rfl rfl wf_X4_42 (by decide) (by decide) rfl dX4_go_103 (fun J2 eJ2 => ?_)
        have hyp := hyp J2 eJ2
        refine cs_inc h (v := (1 : Int32)) 3 rfl (by decide) (by decide) rfl dX4_go_106 (fun v3 ev3 => ?_)
        have hyp := hyp v3 ev3
        show cr_V Γ 109 [.ref 137, .ref 27, .int x2, .int v3, .int v1] [] J2 (cr_rf τ) 247
        refine cr_goto h (tgt := 2) (by decide) dX4_go_109 ?_
        exact cr_weak [true, true, true, true, false] hyp
    · have hyp := hyp.2 c2
      refine cr_aload_n h (j := 0) rfl rfl dX4_go_47 ?_
      refine cr_getR h (k := 1) cr_clsX4 (by decide) rfl rfl wf_X4_16 (by decide) rfl rfl dX4_go_48 ?_
      refine cr_iload_n h (j := 3) rfl rfl dX4_go_51 ?_
      have hb4 := hyp.1
      have hyp := hyp.2
      refine cr_aald h (by decide) rfl hb4 ((kr_145 hb4).2.2 τ) dX4_go_52 ?_
      refine cr_iload_n h (j := 2) rfl rfl dX4_go_53 ?_
      refine cr_iconst h (v := (1 : Int32)) (by decide) dX4_go_54 ?_
      refine cr_iadd h dX4_go_55 ?_
      refine cr_aload_n h (j := 0) rfl rfl dX4_go_56 ?_
      refine cr_getR h (k := 1) cr_clsX4 (by decide) rfl rfl wf_X4_16 (by decide) rfl rfl dX4_go_57 ?_
      refine cr_iload_n h (j := 3) rfl rfl dX4_go_60 ?_
      have hb5 := hyp.1
      have hyp := hyp.2
      refine cr_aald h (by decide) rfl hb5 ((kr_145 hb5).2.2 τ) dX4_go_61 ?_
      refine cr_iload_n h (j := 2) rfl rfl dX4_go_62 ?_
      refine cs_ild h (kr_145 hb5).1 (kr_145 hb5).2.1 hyp.1 (q := x2.toNatClampNeg) rfl dX4_go_63 ?_
      have hyp := hyp.2
      refine cr_aload_n h (j := 0) rfl rfl dX4_go_64 ?_
      refine cr_getR h (k := 0) cr_clsX4 (by decide) rfl rfl wf_X4_11 (by decide) rfl rfl dX4_go_65 ?_
      refine cr_iload_n h (j := 3) rfl rfl dX4_go_68 ?_
      refine cr_iconst h (v := (1 : Int32)) (by decide) dX4_go_69 ?_
      refine cr_isub h dX4_go_70 ?_
      have hb6 := hyp.1
      have hyp := hyp.2
      refine cr_aald h (by decide) rfl hb6 ((kr_138 hb6).2.2 τ) dX4_go_71 ?_
      refine cr_iload_n h (j := 2) rfl rfl dX4_go_72 ?_
      refine cr_iconst h (v := (1 : Int32)) (by decide) dX4_go_73 ?_
      refine cr_iadd h dX4_go_74 ?_
      refine cs_ild h (kr_138 hb6).1 (kr_138 hb6).2.1 hyp.1 (q := (x2 + (1 : Int32)).toNatClampNeg) rfl dX4_go_75 ?_
      have hyp := hyp.2
      refine cr_iadd h dX4_go_76 ?_
      refine cr_iload h rfl dX4_go_77 ?_
      refine cr_isub h dX4_go_79 ?_
      refine cs_ist h (kr_145 hb4).1 (by decide) (kr_145 hb4).2.1 hyp.1 (q := (x2 + (1 : Int32)).toNatClampNeg) rfl dX4_go_80 (fun J3 eJ3 => ?_)
      have hyp := hyp.2 J3 eJ3
      refine cr_aload_n h (j := 1) rfl rfl dX4_go_81 ?_
      refine cr_iload_n h (j := 3) rfl rfl dX4_go_82 ?_
      refine cr_iload_n h (j := 2) rfl rfl dX4_go_83 ?_
      refine cr_callV h (c0 := 3) (T0 := TX3) C_yX3_hasStrangerAhead cZ_yX3_hasStrangerAhead wm_X4_132 wv_yX3_hasStrangerAhead we_yX3_hasStrangerAhead (by decide) rfl rfl (cr_rmS (by decide) (by decide)) (As := [.int x3, .int x2]) rfl (Nat.le_of_ble_eq_true rfl) dX4_go_84 ⟨τ, x3, x2, rfl, hτ, rfl, ?_⟩
      show cr_V Γ 87 [.ref 137, .ref 27, .int x2, .int x3, .int v1] [.int (f_yX3_hasStrangerAhead τ x3 x2 J3)] J3 (cr_rf τ) 247
      refine cr_if_eq h (tgt := 106) (by decide) dX4_go_87 (fun c4 => ?_) (fun c4 => ?_)
      · have hyp := hyp.1 c4
        refine cs_inc h (v := (1 : Int32)) 3 rfl (by decide) (by decide) rfl dX4_go_106 (fun v4 ev4 => ?_)
        have hyp := hyp v4 ev4
        show cr_V Γ 109 [.ref 137, .ref 27, .int x2, .int v4, .int v1] [] J3 (cr_rf τ) 247
        refine cr_goto h (tgt := 2) (by decide) dX4_go_109 ?_
        exact cr_weak [true, true, true, true, false] hyp
      · have hyp := hyp.2 c4
        refine cr_aload_n h (j := 0) rfl rfl dX4_go_90 ?_
        refine cr_dup h rfl dX4_go_91 ?_
        refine cr_getI h (k := 9) cr_clsX4 (by decide) rfl rfl wf_X4_42 (by decide) rfl dX4_go_92 ?_
        refine cr_aload_n h (j := 1) rfl rfl dX4_go_95 ?_
        refine cr_getI h (k := 16) cr_clsX3 (by decide) rfl rfl wf_X4_136 (by decide) rfl dX4_go_96 ?_
        refine cr_iload h rfl dX4_go_99 ?_
        refine cr_isub h dX4_go_101 ?_
        refine cr_iadd h dX4_go_102 ?_
        refine cs_put h (k := 9) cr_clsX4 (by decide) rfl rfl rfl rfl wf_X4_42 (by decide) (by decide) rfl dX4_go_103 (fun J4 eJ4 => ?_)
        have hyp := hyp J4 eJ4
        refine cs_inc h (v := (1 : Int32)) 3 rfl (by decide) (by decide) rfl dX4_go_106 (fun v5 ev5 => ?_)
        have hyp := hyp v5 ev5
        show cr_V Γ 109 [.ref 137, .ref 27, .int x2, .int v5, .int v1] [] J4 (cr_rf τ) 247
        refine cr_goto h (tgt := 2) (by decide) dX4_go_109 ?_
        exact cr_weak [true, true, true, true, false] hyp
abbrev T_yX4_go : cr_T := fun vs I R K => ∃ (τ : Nat → Nat) (x2 : Int32), R = cr_rf τ ∧ cr_tau τ ∧ vs = [.ref 137, .ref 27, .int x2] ∧ p_yX4_go τ x2 I ∧ ∀ J, q_yX4_go τ x2 I J → K none J (cr_rf τ)
abbrev S_yX4_go : Prop := cr_C yX4_go cX4_go 5 none (cr_rm0 1 22) 247 247 T_yX4_go
theorem G_yX4_go (H : ∀ (Γ : cr_G) (K : cr_K) (τ : Nat → Nat) (x2 : Int32) (I : cr_I), cr_tau τ → cr_Ok yX4_go cX4_go 5 none (cr_rm0 1 22) K 247 247 Γ → p_yX4_go τ x2 I → (∀ J, q_yX4_go τ x2 I J → K none J (cr_rf τ)) → cr_V Γ 0 [.ref 137, .ref 27, .int x2, .null, .null] [] I (cr_rf τ) 247) : cr_C yX4_go cX4_go 5 none (cr_rm0 1 22) 247 247 T_yX4_go := by
  refine cr_C.of (by decide +kernel) (fun vs I R K hT => ?_) (fun Γ K h vs I R hT => ?_)
  · obtain ⟨τ, x2, rfl, hτ, rfl, hp, hK⟩ := hT
    exact Nat.le_of_ble_eq_true rfl
  · obtain ⟨τ, x2, rfl, hτ, rfl, hp, hK⟩ := hT
    exact H Γ K τ x2 I hτ h hp hK
theorem C_yX4_go : S_yX4_go := G_yX4_go (by
  intro Γ K τ x2 I hτ h hp hK
  obtain ⟨hno, hs, h20, h21⟩ := hp
  obtain ⟨eN, h1, h6⟩ := hno.un
  obtain ⟨e2, ht⟩ := cr_ofI (B := 31) h20 h21
  unfold q_yX4_go at hK
  generalize cr_cn0 I = n at *
  generalize x2.toNatClampNeg = t at *
  have hL5 : (I 27 13).toNatClampNeg ≤ 5 := by have := hs.1; show (I 27 13).toInt.toNat ≤ 5; omega
  have hxt : (0 : Int) ≤ (nI t).toInt ∧ (nI t).toInt < 33 := cr_ix (by omega) (by omega)
  have hxt1 : (0 : Int) ≤ (nI (t + 1)).toInt ∧ (nI (t + 1)).toInt < 33 := cr_ix (by omega) (by omega)
  refine bk_yX4_go_0 hτ h ?_
  rw [e2]
  refine cr_loop (fun i => ∀ J, (∀ j, j < i → J (153 + j) (t + 1) = I (153 + j) t + I (139 + j) (t + 1)) → (∀ j, 1 ≤ j → j < i → J (146 + j) (t + 1) = I (146 + j) t + I (139 + (j - 1)) (t + 1) - I (139 + j) (t + 1)) → J 137 9 = (if cr_hsP I (I 27 13).toNatClampNeg t ∧ (I 27 13).toNatClampNeg < i then I 137 9 + (I 27 16 - I (139 + (I 27 13).toNatClampNeg) (t + 1)) else I 137 9) → cr_F (cr_PG t) I J → cr_V Γ 2 [.ref 137, .ref 27, .int (nI t), .int (nI i), .null] [] J (cr_rf τ) 247) n ?_ ?_ 0 (Nat.zero_le _) I (fun j hj => absurd hj (Nat.not_lt_zero _)) (fun j _ hj => absurd hj (Nat.not_lt_zero _)) (by rw [if_neg (fun z => by omega)]) cr_F.rf
  · intro J a1 a2 a3 hf
    refine bk_yX4_go_2 hτ h ⟨fun _ => hK _ ⟨a1, a2, a3, hf⟩, fun z => absurd ?_ z⟩
    rw [hf 27 1 (by unfold cr_PG; omega), eN]; exact Int32.le_refl _
  · intro i hi ih J a1 a2 a3 hf
    have hxi : (0 : Int) ≤ (nI i).toInt ∧ (nI i).toInt < 6 := cr_ix (by omega) (by omega)
    refine bk_yX4_go_2 hτ h ⟨fun z => absurd z ?_, fun _ => ?_⟩
    · rw [hf 27 1 (by unfold cr_PG; omega), eN]; exact cr_nle hi (by omega)
    · rw [nI_1, nI_1, cr_nc (show i < 100000 by omega), cr_nc (show t < 100000 by omega), cr_nc (show t + 1 < 100000 by omega), hf (139 + i) (t + 1) (by unfold cr_PG; omega), hf (153 + i) t (by unfold cr_PG; omega)]
      refine ⟨hxi, hxt1, ?_⟩
      rintro v1 rfl
      refine ⟨hxi, hxi, hxt, hxt1, ?_⟩
      rintro J1 rfl
      have hf1 : cr_F (cr_PG t) I (cr_up J (153 + i) (t + 1) (I (153 + i) t + I (139 + i) (t + 1))) := hf.up (by unfold cr_PG; omega)
      have b1 : ∀ j, j < i + 1 → cr_up J (153 + i) (t + 1) (I (153 + i) t + I (139 + i) (t + 1)) (153 + j) (t + 1) = I (153 + j) t + I (139 + j) (t + 1) := by
        intro j hj
        by_cases e : j = i
        · rw [e, cr_up_s]
        · rw [cr_up_b (by omega)]; exact a1 j (by omega)
      have b2 : ∀ j, 1 ≤ j → j < i → cr_up J (153 + i) (t + 1) (I (153 + i) t + I (139 + i) (t + 1)) (146 + j) (t + 1) = I (146 + j) t + I (139 + (j - 1)) (t + 1) - I (139 + j) (t + 1) := by
        intro j hj1 hj
        rw [cr_up_b (by omega)]; exact a2 j hj1 hj
      have b3 : cr_up J (153 + i) (t + 1) (I (153 + i) t + I (139 + i) (t + 1)) 137 9 = (if cr_hsP I (I 27 13).toNatClampNeg t ∧ (I 27 13).toNatClampNeg < i then I 137 9 + (I 27 16 - I (139 + (I 27 13).toNatClampNeg) (t + 1)) else I 137 9) := by
        rw [cr_up_b (by omega)]; exact a3
      generalize cr_up J (153 + i) (t + 1) (I (153 + i) t + I (139 + i) (t + 1)) = M at *
      -- the stranger, and on
      have tail : ∀ M : cr_I, cr_F (cr_PG t) I M → (∀ j, j < i + 1 → M (153 + j) (t + 1) = I (153 + j) t + I (139 + j) (t + 1)) → (∀ j, 1 ≤ j → j < i + 1 → M (146 + j) (t + 1) = I (146 + j) t + I (139 + (j - 1)) (t + 1) - I (139 + j) (t + 1)) → M 137 9 = (if cr_hsP I (I 27 13).toNatClampNeg t ∧ (I 27 13).toNatClampNeg < i then I 137 9 + (I 27 16 - I (139 + (I 27 13).toNatClampNeg) (t + 1)) else I 137 9) → (((f_yX3_hasStrangerAhead τ (nI i) (nI t) M) = 0 → (∀ v2 : Int32, v2 = nI (i + 1) → cr_V Γ 2 [.ref 137, .ref 27, .int (nI t), .int v2, .null] [] M (cr_rf τ) 247)) ∧ (¬ (f_yX3_hasStrangerAhead τ (nI i) (nI t) M) = 0 → (∀ J2 : cr_I, J2 = cr_up M 137 9 ((M 137 9) + ((M 27 16) - I (139 + i) (t + 1))) → (∀ v3 : Int32, v3 = nI (i + 1) → cr_V Γ 2 [.ref 137, .ref 27, .int (nI t), .int v3, .null] [] J2 (cr_rf τ) 247)))) := by
        intro M hfM c1 c2 c3
        have hsM : cr_sok M := by
          unfold cr_sok
          rw [hfM 27 13 (by unfold cr_PG; omega), hfM 27 14 (by unfold cr_PG; omega), hfM 27 15 (by unfold cr_PG; omega)]
          exact hs
        have hst : (f_yX3_hasStrangerAhead τ (nI i) (nI t) M = 0) ↔ ¬ cr_hsP I i t := by
          rw [cr_hs hsM (by omega) (by omega)]
          unfold cr_hsP
          rw [hfM 27 13 (by unfold cr_PG; omega), hfM 27 14 (by unfold cr_PG; omega), hfM 27 15 (by unfold cr_PG; omega)]
        rw [hst]
        refine ⟨fun z => ?_, fun z => ?_⟩
        · rintro v rfl
          refine ih M c1 c2 ?_ hfM
          rw [c3]
          by_cases q : cr_hsP I (I 27 13).toNatClampNeg t ∧ (I 27 13).toNatClampNeg < i
          · rw [if_pos q, if_pos ⟨q.1, by omega⟩]
          · rw [if_neg q, if_neg (fun y => ?_)]
            by_cases e : (I 27 13).toNatClampNeg = i
            · exact z ⟨y.1.1, e, y.1.2.2.1, y.1.2.2.2⟩
            · exact q ⟨y.1, by omega⟩
        · rw [Classical.not_not] at z
          have eL := z.2.1
          rw [c3, if_neg (fun y => by omega), hfM 27 16 (by unfold cr_PG; omega)]
          rintro J2 rfl v rfl
          refine ih _ (fun j hj => ?_) (fun j hj1 hj => ?_) ?_ (hfM.up (by unfold cr_PG; omega))
          · rw [cr_up_b (by omega)]; exact c1 j hj
          · rw [cr_up_b (by omega)]; exact c2 j hj1 hj
          · rw [cr_up_s, if_pos ⟨⟨z.1, rfl, z.2.2.1, z.2.2.2⟩, by omega⟩, eL]
      have hi0 : (nI i ≤ 0) ↔ i = 0 := by rw [← nI_0, cr_nlq (by omega) (by omega)]; omega
      rw [hi0]
      refine ⟨fun z => tail M hf1 b1 (fun j hj1 hj => by omega) b3, fun z => ⟨hxi, hxi, hxt, ?_, hxt1, hxt1, ?_⟩⟩
      · rw [show i = (i - 1) + 1 by omega, nI_pred]
        exact cr_ix (by omega) (by omega)
      · rw [show (nI i - 1).toNatClampNeg = i - 1 by rw [show i = (i - 1) + 1 by omega, nI_pred]; exact cr_nc (by omega)]
        rw [hf1 (146 + i) t (by unfold cr_PG; omega), hf1 (139 + (i - 1)) (t + 1) (by unfold cr_PG; omega)]
        rintro J3 rfl
        refine tail _ (hf1.up (by unfold cr_PG; omega)) (fun j hj => ?_) (fun j hj1 hj => ?_) ?_
        · rw [cr_up_b (by omega)]; exact b1 j hj
        · by_cases e : j = i
          · rw [e, cr_up_s]
          · rw [cr_up_b (by omega)]; exact b2 j hj1 (by omega)
        · rw [cr_up_b (by omega)]; exact b3)
/-! touches -/
def cr_ctc (I : cr_I) (t i : Nat) : Bool := decide (I (146 + i) (t + 1) ≤ 0) || (decide (cr_hsP I i t) && decide (I 137 9 ≤ 0))
def p_yX4_noteTouch (τ : Nat → Nat) (x2 : Int32) (I : cr_I) : Prop := cr_nok I ∧ cr_sok I ∧ (0 ≤ x2.toInt ∧ x2.toInt ≤ 31)
def q_yX4_noteTouch (τ : Nat → Nat) (x2 : Int32) (I J : cr_I) : Prop := J = if I 137 6 = -1 then (match cr_firstS (cr_ctc I x2.toNatClampNeg) 1 (cr_cn0 I - 1) with | some i => cr_up (cr_up I 137 6 x2) 137 7 (nI i) | none => I) else I
theorem bk_yX4_noteTouch_0 {Γ : cr_G} {K : cr_K} {τ : Nat → Nat} {I : cr_I} {x2 : Int32} (hτ : cr_tau τ)  (h : cr_Ok yX4_noteTouch cX4_noteTouch 5 none (cr_rm0 1 22) K 247 247 Γ) (hyp : cr_V Γ 2 [.ref 137, .ref 27, .int x2, .int (1 : Int32), .null] [] I (cr_rf τ) 247) : cr_V Γ 0 [.ref 137, .ref 27, .int x2, .null, .null] [] I (cr_rf τ) 247 := by
  refine cr_iconst h (v := (1 : Int32)) (by decide) dX4_noteTouch_0 ?_
  refine cr_istore_n h (j := 3) rfl (by decide) rfl dX4_noteTouch_1 ?_
  show cr_V Γ 2 [.ref 137, .ref 27, .int x2, .int (1 : Int32), .null] [] I (cr_rf τ) 247
  exact cr_weak [true, true, true, true, false] hyp
theorem bk_yX4_noteTouch_2 {Γ : cr_G} {K : cr_K} {τ : Nat → Nat} {I : cr_I} {x2 : Int32} {x3 : Int32} (hτ : cr_tau τ)  (h : cr_Ok yX4_noteTouch cX4_noteTouch 5 none (cr_rm0 1 22) K 247 247 Γ) (hyp : ((I 27 1) ≤ x3 → K none I (cr_rf τ)) ∧ (¬ (I 27 1) ≤ x3 → ((¬ (I 137 6) = (-1 : Int32) → K none I (cr_rf τ)) ∧ ((I 137 6) = (-1 : Int32) → (∀ v1 : Int32, v1 = (if (f_yX3_hasStrangerAhead τ x3 x2 I) = 0 then (0 : Int32) else (if 0 < (I 137 9) then (0 : Int32) else (1 : Int32))) → ((0 ≤ x3.toInt ∧ x3.toInt < 6) ∧ (0 ≤ (x2 + (1 : Int32)).toInt ∧ (x2 + (1 : Int32)).toInt < 33) ∧ ((I (146 + x3.toNatClampNeg) (x2 + (1 : Int32)).toNatClampNeg) ≤ 0 → (∀ J1 : cr_I, J1 = cr_up I 137 6 x2 → (∀ J2 : cr_I, J2 = cr_up J1 137 7 x3 → (∀ v2 : Int32, v2 = x3 + (1 : Int32) → cr_V Γ 2 [.ref 137, .ref 27, .int x2, .int v2, .null] [] J2 (cr_rf τ) 247)))) ∧ (¬ (I (146 + x3.toNatClampNeg) (x2 + (1 : Int32)).toNatClampNeg) ≤ 0 → ((v1 = 0 → (∀ v3 : Int32, v3 = x3 + (1 : Int32) → cr_V Γ 2 [.ref 137, .ref 27, .int x2, .int v3, .null] [] I (cr_rf τ) 247)) ∧ (¬ v1 = 0 → (∀ J3 : cr_I, J3 = cr_up I 137 6 x2 → (∀ J4 : cr_I, J4 = cr_up J3 137 7 x3 → (∀ v4 : Int32, v4 = x3 + (1 : Int32) → cr_V Γ 2 [.ref 137, .ref 27, .int x2, .int v4, .null] [] J4 (cr_rf τ) 247)))))))))))) : cr_V Γ 2 [.ref 137, .ref 27, .int x2, .int x3, .null] [] I (cr_rf τ) 247 := by
  refine cr_iload_n h (j := 3) rfl rfl dX4_noteTouch_2 ?_
  refine cr_aload_n h (j := 1) rfl rfl dX4_noteTouch_3 ?_
  refine cr_getI h (k := 1) cr_clsX3 (by decide) rfl rfl wf_X4_69 (by decide) rfl dX4_noteTouch_4 ?_
  refine cr_icmp_ge h (tgt := 75) (by decide) dX4_noteTouch_7 (fun c1 => ?_) (fun c1 => ?_)
  · have hyp := hyp.1 c1
    refine cr_vret h rfl rfl dX4_noteTouch_75 ?_
    exact hyp
  · have hyp := hyp.2 c1
    refine cr_aload_n h (j := 0) rfl rfl dX4_noteTouch_10 ?_
    refine cr_getI h (k := 6) cr_clsX4 (by decide) rfl rfl wf_X4_32 (by decide) rfl dX4_noteTouch_11 ?_
    refine cr_iconst h (v := (-1 : Int32)) (by decide) dX4_noteTouch_14 ?_
    refine cr_icmp_ne h (tgt := 75) (by decide) dX4_noteTouch_15 (fun c2 => ?_) (fun c2 => ?_)
    · have hyp := hyp.1 c2
      refine cr_vret h rfl rfl dX4_noteTouch_75 ?_
      exact hyp
    · have hyp := hyp.2 c2
      refine cr_aload_n h (j := 1) rfl rfl dX4_noteTouch_18 ?_
      refine cr_iload_n h (j := 3) rfl rfl dX4_noteTouch_19 ?_
      refine cr_iload_n h (j := 2) rfl rfl dX4_noteTouch_20 ?_
      refine cr_callV h (c0 := 3) (T0 := TX3) C_yX3_hasStrangerAhead cZ_yX3_hasStrangerAhead wm_X4_132 wv_yX3_hasStrangerAhead we_yX3_hasStrangerAhead (by decide) rfl rfl (cr_rmS (by decide) (by decide)) (As := [.int x3, .int x2]) rfl (Nat.le_of_ble_eq_true rfl) dX4_noteTouch_21 ⟨τ, x3, x2, rfl, hτ, rfl, ?_⟩
      show cr_V Γ 24 [.ref 137, .ref 27, .int x2, .int x3, .null] [.int (f_yX3_hasStrangerAhead τ x3 x2 I)] I (cr_rf τ) 247
      have J5 : cr_V Γ 39 [.ref 137, .ref 27, .int x2, .int x3, .null] [.int (if (f_yX3_hasStrangerAhead τ x3 x2 I) = 0 then (0 : Int32) else (if 0 < (I 137 9) then (0 : Int32) else (1 : Int32)))] I (cr_rf τ) 247 := by
        refine cs_i h 4 (by decide) rfl dX4_noteTouch_39 (fun v1 ev1 => ?_)
        have hyp := hyp v1 ev1
        show cr_V Γ 41 [.ref 137, .ref 27, .int x2, .int x3, .int v1] [] I (cr_rf τ) 247
        refine cr_aload_n h (j := 0) rfl rfl dX4_noteTouch_41 ?_
        refine cr_getR h (k := 1) cr_clsX4 (by decide) rfl rfl wf_X4_16 (by decide) rfl rfl dX4_noteTouch_42 ?_
        refine cr_iload_n h (j := 3) rfl rfl dX4_noteTouch_45 ?_
        have hb1 := hyp.1
        have hyp := hyp.2
        refine cr_aald h (by decide) rfl hb1 ((kr_145 hb1).2.2 τ) dX4_noteTouch_46 ?_
        refine cr_iload_n h (j := 2) rfl rfl dX4_noteTouch_47 ?_
        refine cr_iconst h (v := (1 : Int32)) (by decide) dX4_noteTouch_48 ?_
        refine cr_iadd h dX4_noteTouch_49 ?_
        refine cs_ild h (kr_145 hb1).1 (kr_145 hb1).2.1 hyp.1 (q := (x2 + (1 : Int32)).toNatClampNeg) rfl dX4_noteTouch_50 ?_
        have hyp := hyp.2
        refine cr_if_le h (tgt := 59) (by decide) dX4_noteTouch_51 (fun c5 => ?_) (fun c5 => ?_)
        · have hyp := hyp.1 c5
          refine cr_aload_n h (j := 0) rfl rfl dX4_noteTouch_59 ?_
          refine cr_iload_n h (j := 2) rfl rfl dX4_noteTouch_60 ?_
          refine cs_put h (k := 6) cr_clsX4 (by decide) rfl rfl rfl rfl wf_X4_32 (by decide) (by decide) rfl dX4_noteTouch_61 (fun J1 eJ1 => ?_)
          have hyp := hyp J1 eJ1
          refine cr_aload_n h (j := 0) rfl rfl dX4_noteTouch_64 ?_
          refine cr_iload_n h (j := 3) rfl rfl dX4_noteTouch_65 ?_
          refine cs_put h (k := 7) cr_clsX4 (by decide) rfl rfl rfl rfl wf_X4_36 (by decide) (by decide) rfl dX4_noteTouch_66 (fun J2 eJ2 => ?_)
          have hyp := hyp J2 eJ2
          refine cs_inc h (v := (1 : Int32)) 3 rfl (by decide) (by decide) rfl dX4_noteTouch_69 (fun v2 ev2 => ?_)
          have hyp := hyp v2 ev2
          show cr_V Γ 72 [.ref 137, .ref 27, .int x2, .int v2, .int v1] [] J2 (cr_rf τ) 247
          refine cr_goto h (tgt := 2) (by decide) dX4_noteTouch_72 ?_
          exact cr_weak [true, true, true, true, false] hyp
        · have hyp := hyp.2 c5
          refine cr_iload h rfl dX4_noteTouch_54 ?_
          refine cr_if_eq h (tgt := 69) (by decide) dX4_noteTouch_56 (fun c6 => ?_) (fun c6 => ?_)
          · have hyp := hyp.1 c6
            refine cs_inc h (v := (1 : Int32)) 3 rfl (by decide) (by decide) rfl dX4_noteTouch_69 (fun v3 ev3 => ?_)
            have hyp := hyp v3 ev3
            show cr_V Γ 72 [.ref 137, .ref 27, .int x2, .int v3, .int v1] [] I (cr_rf τ) 247
            refine cr_goto h (tgt := 2) (by decide) dX4_noteTouch_72 ?_
            exact cr_weak [true, true, true, true, false] hyp
          · have hyp := hyp.2 c6
            refine cr_aload_n h (j := 0) rfl rfl dX4_noteTouch_59 ?_
            refine cr_iload_n h (j := 2) rfl rfl dX4_noteTouch_60 ?_
            refine cs_put h (k := 6) cr_clsX4 (by decide) rfl rfl rfl rfl wf_X4_32 (by decide) (by decide) rfl dX4_noteTouch_61 (fun J3 eJ3 => ?_)
            have hyp := hyp J3 eJ3
            refine cr_aload_n h (j := 0) rfl rfl dX4_noteTouch_64 ?_
            refine cr_iload_n h (j := 3) rfl rfl dX4_noteTouch_65 ?_
            refine cs_put h (k := 7) cr_clsX4 (by decide) rfl rfl rfl rfl wf_X4_36 (by decide) (by decide) rfl dX4_noteTouch_66 (fun J4 eJ4 => ?_)
            have hyp := hyp J4 eJ4
            refine cs_inc h (v := (1 : Int32)) 3 rfl (by decide) (by decide) rfl dX4_noteTouch_69 (fun v4 ev4 => ?_)
            have hyp := hyp v4 ev4
            show cr_V Γ 72 [.ref 137, .ref 27, .int x2, .int v4, .int v1] [] J4 (cr_rf τ) 247
            refine cr_goto h (tgt := 2) (by decide) dX4_noteTouch_72 ?_
            exact cr_weak [true, true, true, true, false] hyp
      refine cr_if_eq h (tgt := 38) (by decide) dX4_noteTouch_24 (fun c3 => ?_) (fun c3 => ?_)
      · refine cr_iconst h (v := (0 : Int32)) (by decide) dX4_noteTouch_38 ?_
        exact cr_ite (by rw [if_pos c3]) J5
      · refine cr_aload_n h (j := 0) rfl rfl dX4_noteTouch_27 ?_
        refine cr_getI h (k := 9) cr_clsX4 (by decide) rfl rfl wf_X4_42 (by decide) rfl dX4_noteTouch_28 ?_
        refine cr_if_gt h (tgt := 38) (by decide) dX4_noteTouch_31 (fun c4 => ?_) (fun c4 => ?_)
        · refine cr_iconst h (v := (0 : Int32)) (by decide) dX4_noteTouch_38 ?_
          exact cr_ite (by rw [if_neg c3, if_pos c4]) J5
        · refine cr_iconst h (v := (1 : Int32)) (by decide) dX4_noteTouch_34 ?_
          refine cr_goto h (tgt := 39) (by decide) dX4_noteTouch_35 ?_
          exact cr_ite (by rw [if_neg c3, if_neg c4]) J5
abbrev T_yX4_noteTouch : cr_T := fun vs I R K => ∃ (τ : Nat → Nat) (x2 : Int32), R = cr_rf τ ∧ cr_tau τ ∧ vs = [.ref 137, .ref 27, .int x2] ∧ p_yX4_noteTouch τ x2 I ∧ ∀ J, q_yX4_noteTouch τ x2 I J → K none J (cr_rf τ)
abbrev S_yX4_noteTouch : Prop := cr_C yX4_noteTouch cX4_noteTouch 5 none (cr_rm0 1 22) 247 247 T_yX4_noteTouch
theorem G_yX4_noteTouch (H : ∀ (Γ : cr_G) (K : cr_K) (τ : Nat → Nat) (x2 : Int32) (I : cr_I), cr_tau τ → cr_Ok yX4_noteTouch cX4_noteTouch 5 none (cr_rm0 1 22) K 247 247 Γ → p_yX4_noteTouch τ x2 I → (∀ J, q_yX4_noteTouch τ x2 I J → K none J (cr_rf τ)) → cr_V Γ 0 [.ref 137, .ref 27, .int x2, .null, .null] [] I (cr_rf τ) 247) : cr_C yX4_noteTouch cX4_noteTouch 5 none (cr_rm0 1 22) 247 247 T_yX4_noteTouch := by
  refine cr_C.of (by decide +kernel) (fun vs I R K hT => ?_) (fun Γ K h vs I R hT => ?_)
  · obtain ⟨τ, x2, rfl, hτ, rfl, hp, hK⟩ := hT
    exact Nat.le_of_ble_eq_true rfl
  · obtain ⟨τ, x2, rfl, hτ, rfl, hp, hK⟩ := hT
    exact H Γ K τ x2 I hτ h hp hK
theorem C_yX4_noteTouch : S_yX4_noteTouch := G_yX4_noteTouch (by
  intro Γ K τ x2 I hτ h hp hK
  obtain ⟨hno, hs, h20, h21⟩ := hp
  obtain ⟨eN, h1, h6⟩ := hno.un
  obtain ⟨e2, ht⟩ := cr_ofI (B := 31) h20 h21
  unfold q_yX4_noteTouch at hK
  generalize cr_cn0 I = n at *
  generalize x2.toNatClampNeg = t at *
  have hxt1 : (0 : Int) ≤ (nI (t + 1)).toInt ∧ (nI (t + 1)).toInt < 33 := cr_ix (by omega) (by omega)
  have hne : ¬ nI t = (-1 : Int32) := by
    rw [cr_eq, cr_nt (by omega)]
    intro z
    have : (-1 : Int32).toInt = -1 := rfl
    omega
  refine bk_yX4_noteTouch_0 hτ h ?_
  rw [e2]
  rw [e2] at hK
  by_cases q : I 137 6 = -1
  · have key : ∀ m l, l + m = n → 1 ≤ l → cr_firstS (cr_ctc I t) 1 (n - 1) = cr_firstS (cr_ctc I t) l m → cr_V Γ 2 [.ref 137, .ref 27, .int (nI t), .int (nI l), .null] [] I (cr_rf τ) 247 := by
      intro m
      induction m with
      | zero =>
        intro l hl _ he
        refine bk_yX4_noteTouch_2 hτ h ⟨fun _ => hK _ ?_, fun z => absurd ?_ z⟩
        · rw [if_pos q, he]
          rfl
        · rw [eN, show l = n by omega]; exact Int32.le_refl _
      | succ m ih =>
        intro l hl h1l he
        have hxl : (0 : Int) ≤ (nI l).toInt ∧ (nI l).toInt < 6 := cr_ix (by omega) (by omega)
        have hst := cr_hs (τ := τ) (I := I) (i := l) (t := t) hs (by omega) (by omega)
        have done : cr_ctc I t l = true → ∀ J2, J2 = cr_up (cr_up I 137 6 (nI t)) 137 7 (nI l) → ∀ v2 : Int32, cr_V Γ 2 [.ref 137, .ref 27, .int (nI t), .int v2, .null] [] J2 (cr_rf τ) 247 := by
          intro hc J2 e v2
          rw [cr_firstS, if_pos hc] at he
          have hKJ := hK J2 (by rw [e, if_pos q, he])
          refine bk_yX4_noteTouch_2 hτ h ⟨fun _ => hKJ, fun _ => ⟨fun _ => hKJ, fun z => absurd ?_ hne⟩⟩
          rw [e, cr_up_k (by decide), cr_up_s] at z
          exact z
        refine bk_yX4_noteTouch_2 hτ h ⟨fun z => absurd z ?_, fun _ => ⟨fun z => absurd q z, fun _ => ?_⟩⟩
        · rw [eN]; exact cr_nle (by omega) (by omega)
        · rw [nI_1, nI_1, cr_nc (show l < 100000 by omega), cr_nc (show t + 1 < 100000 by omega)]
          intro v1 ev
          have hv : (v1 = 0) ↔ ¬ (cr_hsP I l t ∧ I 137 9 ≤ 0) := by
            rw [ev]
            by_cases z : f_yX3_hasStrangerAhead τ (nI l) (nI t) I = 0
            · rw [if_pos z]
              rw [hst] at z
              exact ⟨fun _ y => z y.1, fun _ => rfl⟩
            · rw [if_neg z]
              rw [hst, Classical.not_not] at z
              by_cases y : 0 < I 137 9
              · rw [if_pos y]
                exact ⟨fun _ w => absurd w.2 (Int32.not_le.mpr y), fun _ => rfl⟩
              · rw [if_neg y]
                exact ⟨fun w => absurd w (by decide), fun w => absurd ⟨z, Int32.not_lt.mp y⟩ w⟩
          refine ⟨hxl, hxt1, fun c => ?_, fun c => ⟨fun d => ?_, fun d => ?_⟩⟩
          · rintro J1 rfl J2 rfl v rfl
            exact done (by unfold cr_ctc; rw [decide_eq_true c, Bool.true_or]) _ rfl _
          · rintro v rfl
            refine ih (l + 1) (by omega) (by omega) ?_
            rw [he, cr_firstS, if_neg ?_]
            unfold cr_ctc
            rw [decide_eq_false c, Bool.false_or]
            intro z
            rw [Bool.and_eq_true] at z
            exact hv.mp d ⟨of_decide_eq_true z.1, of_decide_eq_true z.2⟩
          · rw [hv, Classical.not_not] at d
            rintro J1 rfl J2 rfl v rfl
            exact done (by unfold cr_ctc; rw [decide_eq_true d.1, decide_eq_true d.2, Bool.true_and, Bool.or_true]) _ rfl _
    exact key (n - 1) 1 (by omega) (by omega) rfl
  · refine bk_yX4_noteTouch_2 hτ h ⟨fun _ => hK _ (by rw [if_neg q]), fun _ => ⟨fun _ => hK _ (by rw [if_neg q]), fun z => absurd z q⟩⟩)
