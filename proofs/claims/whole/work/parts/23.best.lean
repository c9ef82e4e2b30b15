/-! the best hours: the class -/
def cr_cpI (I : cr_I) (b0 b1 a c m : Nat) : cr_I := fun b q => if b = b1 then va_cpy (I b0) (I b1) a c m q else I b q
theorem cr_cpI_o {I : cr_I} {b0 b1 a c m b : Nat} (h : b ≠ b1) : cr_cpI I b0 b1 a c m b = I b := funext fun _ => if_neg h
theorem cr_cpI_s {I : cr_I} {b0 b1 a c m : Nat} : cr_cpI I b0 b1 a c m b1 = va_cpy (I b0) (I b1) a c m := funext fun _ => if_pos rfl
theorem cs_acopy {Γ : cr_G} {y : MethodName} {cc : ByteArray} {nL : Nat} {ret : Option FieldType} {rm : Room} {K : cr_K} {nS nE pc : Nat} {ls st : List Value} {I : cr_I} {R : cr_R} {n : Nat} (h : cr_Ok y cc nL ret rm K nS nE Γ) {j b0 b1 N0 N1 a c m : Nat} {sp dp k : Int32} (hw : Cond.methodLink y.cls j arraycopyName ∈ cr_GW) (hn : n = 247) (hb0 : b0 < n) (hb1 : b1 < n) (hk0 : cr_kd b0 = (0, N0)) (hk1 : cr_kd b1 = (0, N1)) (h1 : ¬ sp < 0) (h2 : ¬ dp < 0) (h3 : ¬ k < 0) (h4 : sp.toNatClampNeg + k.toNatClampNeg ≤ N0) (h5 : dp.toNatClampNeg + k.toNatClampNeg ≤ N1) (h8 : (st.map fun v => v.category).sum ≤ 8) (hf : 1 ≤ rm.frames ∧ 40 ≤ rm.locals) (ea : sp.toNatClampNeg = a) (ec : dp.toNatClampNeg = c) (em : k.toNatClampNeg = m) (d : decode cc pc = .ok (.invokestatic j, 3)) (k1 : ∀ J, J = cr_cpI I b0 b1 a c m → cr_V Γ (pc + 3) ls st J R n) : cr_V Γ pc ls (.int k :: .int dp :: .ref b1 :: .int sp :: .ref b0 :: st) I R n := cr_acopy h hw wn_arraycopyName ws_arraycopyName cr_iniSys hn hb0 hb1 hk0 hk1 h1 h2 h3 h4 h5 h8 hf d (k1 _ (by subst ea; subst ec; subst em; rfl))
def p_yX1_turn (τ : Nat → Nat) (I : cr_I) : Prop := 0 ≤ (I 169 0).toInt ∧ (I 169 0).toInt ≤ 5
def q_yX1_turn (τ : Nat → Nat) (I J : cr_I) : Prop := cr_fr 175 175 I J ∧ J 175 = (cr_tnS (I 172) (I 173) (cr_jn I) (I 175)).1
theorem bk_yX1_turn_0 {Γ : cr_G} {K : cr_K} {τ : Nat → Nat} {I : cr_I}  (hτ : cr_tau τ)  (h : cr_Ok yX1_turn cX1_turn 2 none (cr_rm0 0 0) K 247 247 Γ) (hyp : ∀ v1 : Int32, v1 = ((I 169 0) - (1 : Int32)) → cr_V Γ 7 [.ref 169, .int v1] [] I (cr_rf τ) 247) : cr_V Γ 0 [.ref 169, .null] [] I (cr_rf τ) 247 := by
  refine cr_aload_n h (j := 0) rfl rfl dX1_turn_0 ?_
  refine cr_getI h (k := 0) cr_clsX1 (by decide) rfl rfl wf_X1_9 (by decide) rfl dX1_turn_1 ?_
  refine cr_iconst h (v := (1 : Int32)) (by decide) dX1_turn_4 ?_
  refine cr_isub h dX1_turn_5 ?_
  refine cs_i_n h 1 rfl (by decide) rfl dX1_turn_6 (fun v1 ev1 => ?_)
  have hyp := hyp v1 ev1
  show cr_V Γ 7 [.ref 169, .int v1] [] I (cr_rf τ) 247
  exact cr_weak [true, true] hyp
theorem bk_yX1_turn_7 {Γ : cr_G} {K : cr_K} {τ : Nat → Nat} {I : cr_I} {x1 : Int32} (hτ : cr_tau τ)  (h : cr_Ok yX1_turn cX1_turn 2 none (cr_rm0 0 0) K 247 247 Γ) (hyp : (x1 < 0 → K none I (cr_rf τ)) ∧ (¬ x1 < 0 → ((0 ≤ x1.toInt ∧ x1.toInt < 5) ∧ (0 ≤ x1.toInt ∧ x1.toInt < 5) ∧ ((I 173 x1.toNatClampNeg) ≤ (I 175 x1.toNatClampNeg) → ((0 ≤ x1.toInt ∧ x1.toInt < 5) ∧ (0 ≤ x1.toInt ∧ x1.toInt < 5) ∧ (∀ J1 : cr_I, J1 = cr_up I 175 x1.toNatClampNeg (I 172 x1.toNatClampNeg) → (∀ v2 : Int32, v2 = x1 + (-1 : Int32) → cr_V Γ 7 [.ref 169, .int v2] [] J1 (cr_rf τ) 247)))) ∧ (¬ (I 173 x1.toNatClampNeg) ≤ (I 175 x1.toNatClampNeg) → ((0 ≤ x1.toInt ∧ x1.toInt < 5) ∧ (0 ≤ x1.toInt ∧ x1.toInt < 5) ∧ (∀ J2 : cr_I, J2 = cr_up I 175 x1.toNatClampNeg ((I 175 x1.toNatClampNeg) + (1 : Int32)) → K none J2 (cr_rf τ))))))) : cr_V Γ 7 [.ref 169, .int x1] [] I (cr_rf τ) 247 := by
  refine cr_iload_n h (j := 1) rfl rfl dX1_turn_7 ?_
  refine cr_if_lt h (tgt := 55) (by decide) dX1_turn_8 (fun c1 => ?_) (fun c1 => ?_)
  · have hyp := hyp.1 c1
    refine cr_vret h rfl rfl dX1_turn_55 ?_
    exact hyp
  · have hyp := hyp.2 c1
    refine cr_aload_n h (j := 0) rfl rfl dX1_turn_11 ?_
    refine cr_getR h (k := 6) cr_clsX1 (by decide) rfl rfl wf_X1_31 (by decide) rfl rfl dX1_turn_12 ?_
    refine cr_iload_n h (j := 1) rfl rfl dX1_turn_15 ?_
    refine cs_ild h (by decide) rfl hyp.1 (q := x1.toNatClampNeg) rfl dX1_turn_16 ?_
    have hyp := hyp.2
    refine cr_aload_n h (j := 0) rfl rfl dX1_turn_17 ?_
    refine cr_getR h (k := 4) cr_clsX1 (by decide) rfl rfl wf_X1_25 (by decide) rfl rfl dX1_turn_18 ?_
    refine cr_iload_n h (j := 1) rfl rfl dX1_turn_21 ?_
    refine cs_ild h (by decide) rfl hyp.1 (q := x1.toNatClampNeg) rfl dX1_turn_22 ?_
    have hyp := hyp.2
    refine cr_icmp_ge h (tgt := 37) (by decide) dX1_turn_23 (fun c2 => ?_) (fun c2 => ?_)
    · have hyp := hyp.1 c2
      refine cr_aload_n h (j := 0) rfl rfl dX1_turn_37 ?_
      refine cr_getR h (k := 6) cr_clsX1 (by decide) rfl rfl wf_X1_31 (by decide) rfl rfl dX1_turn_38 ?_
      refine cr_iload_n h (j := 1) rfl rfl dX1_turn_41 ?_
      refine cr_aload_n h (j := 0) rfl rfl dX1_turn_42 ?_
      refine cr_getR h (k := 3) cr_clsX1 (by decide) rfl rfl wf_X1_22 (by decide) rfl rfl dX1_turn_43 ?_
      refine cr_iload_n h (j := 1) rfl rfl dX1_turn_46 ?_
      refine cs_ild h (by decide) rfl hyp.1 (q := x1.toNatClampNeg) rfl dX1_turn_47 ?_
      have hyp := hyp.2
      refine cs_ist h (by decide) (by decide) rfl hyp.1 (q := x1.toNatClampNeg) rfl dX1_turn_48 (fun J1 eJ1 => ?_)
      have hyp := hyp.2 J1 eJ1
      refine cs_inc h (v := (-1 : Int32)) 1 rfl (by decide) (by decide) rfl dX1_turn_49 (fun v2 ev2 => ?_)
      have hyp := hyp v2 ev2
      show cr_V Γ 52 [.ref 169, .int v2] [] J1 (cr_rf τ) 247
      refine cr_goto h (tgt := 7) (by decide) dX1_turn_52 ?_
      exact cr_weak [true, true] hyp
    · have hyp := hyp.2 c2
      refine cr_aload_n h (j := 0) rfl rfl dX1_turn_26 ?_
      refine cr_getR h (k := 6) cr_clsX1 (by decide) rfl rfl wf_X1_31 (by decide) rfl rfl dX1_turn_27 ?_
      refine cr_iload_n h (j := 1) rfl rfl dX1_turn_30 ?_
      refine cr_dup2 h rfl rfl dX1_turn_31 ?_
      refine cs_ild h (by decide) rfl hyp.1 (q := x1.toNatClampNeg) rfl dX1_turn_32 ?_
      have hyp := hyp.2
      refine cr_iconst h (v := (1 : Int32)) (by decide) dX1_turn_33 ?_
      refine cr_iadd h dX1_turn_34 ?_
      refine cs_ist h (by decide) (by decide) rfl hyp.1 (q := x1.toNatClampNeg) rfl dX1_turn_35 (fun J2 eJ2 => ?_)
      have hyp := hyp.2 J2 eJ2
      refine cr_vret h rfl rfl dX1_turn_36 ?_
      exact hyp
abbrev T_yX1_turn : cr_T := fun vs I R K => ∃ (τ : Nat → Nat), R = cr_rf τ ∧ cr_tau τ ∧ vs = [.ref 169] ∧ p_yX1_turn τ I ∧ ∀ J, q_yX1_turn τ I J → K none J (cr_rf τ)
abbrev S_yX1_turn : Prop := cr_C yX1_turn cX1_turn 2 none (cr_rm0 0 0) 247 247 T_yX1_turn
theorem G_yX1_turn (H : ∀ (Γ : cr_G) (K : cr_K) (τ : Nat → Nat) (I : cr_I), cr_tau τ → cr_Ok yX1_turn cX1_turn 2 none (cr_rm0 0 0) K 247 247 Γ → p_yX1_turn τ I → (∀ J, q_yX1_turn τ I J → K none J (cr_rf τ)) → cr_V Γ 0 [.ref 169, .null] [] I (cr_rf τ) 247) : cr_C yX1_turn cX1_turn 2 none (cr_rm0 0 0) 247 247 T_yX1_turn := by
  refine cr_C.of (by decide +kernel) (fun vs I R K hT => ?_) (fun Γ K h vs I R hT => ?_)
  · obtain ⟨τ, rfl, hτ, rfl, hp, hK⟩ := hT
    exact Nat.le_of_ble_eq_true rfl
  · obtain ⟨τ, rfl, hτ, rfl, hp, hK⟩ := hT
    exact H Γ K τ I hτ h hp hK
theorem cr_up_row {J : cr_I} {b m : Nat} {v : Int32} : cr_up J b m v b = fun i => if i = m then v else J b i := by
  funext i
  unfold cr_up
  simp
theorem C_yX1_turn : S_yX1_turn := G_yX1_turn (by
  intro Γ K τ I hτ h hp hK
  obtain ⟨eN, hN⟩ := cr_ofI (B := 5) hp.1 hp.2
  have eN' : I 169 0 = nI (cr_jn I) := eN
  have hN' : cr_jn I ≤ 5 := hN
  refine bk_yX1_turn_0 hτ h ?_
  rw [eN']
  rintro v rfl
  have key : ∀ (m : Nat) (J : cr_I), m ≤ 5 → cr_fr 175 175 I J → (∀ L, cr_fr 175 175 I L → L 175 = (cr_tnS (I 172) (I 173) m (J 175)).1 → K none L (cr_rf τ)) → cr_V Γ 7 [.ref 169, .int (nI m - 1)] [] J (cr_rf τ) 247 := by
    intro m
    induction m with
    | zero =>
      intro J _ hf hk
      exact bk_yX1_turn_7 hτ h ⟨fun _ => hk J hf rfl, fun c => absurd (by decide) c⟩
    | succ m ih =>
      intro J hm hf hk
      have hxm : (0 : Int) ≤ (nI m).toInt ∧ (nI m).toInt < 5 := cr_ix (by omega) (by omega)
      rw [nI_pred]
      refine bk_yX1_turn_7 hτ h ⟨fun c => absurd c (nI_pos (by omega)), fun _ => ⟨hxm, hxm, fun c => ⟨hxm, hxm, ?_⟩, fun c => ⟨hxm, hxm, ?_⟩⟩⟩
      · rw [cr_nc (by omega), cr_le, hf 173 m (by omega)] at c
        rw [cr_nc (by omega), hf 172 m (by omega)]
        rintro J1 rfl v rfl
        rw [show nI m + (-1 : Int32) = nI m - 1 from (Int32.sub_eq_add_neg _ _).symm]
        refine ih _ (by omega) (hf.up (by omega) (by omega)) (fun L hL e => hk L hL ?_)
        rw [e, cr_tnS, if_pos c, cr_up_row]
      · rw [cr_nc (by omega), cr_le, hf 173 m (by omega)] at c
        rw [cr_nc (by omega)]
        rintro J2 rfl
        refine hk _ (hf.up (by omega) (by omega)) ?_
        rw [cr_tnS, if_neg c, cr_up_row]
  exact key (cr_jn I) I hN' cr_fr.rf (fun L hL e => hK L ⟨hL, e⟩))
def f_yX1_choices (τ : Nat → Nat) (I : cr_I) : Int32 := nI (cr_chN (I 172) (I 173) (cr_jn I))
def p_yX1_choices (τ : Nat → Nat) (I : cr_I) : Prop := (0 ≤ (I 169 0).toInt ∧ (I 169 0).toInt ≤ 5) ∧ cr_hw (cr_jn I) (I 172) (I 173)
theorem bk_yX1_choices_0 {Γ : cr_G} {K : cr_K} {τ : Nat → Nat} {I : cr_I}  (hτ : cr_tau τ)  (h : cr_Ok yX1_choices cX1_choices 3 (some .int) (cr_rm0 0 0) K 247 247 Γ) (hyp : cr_V Γ 4 [.ref 169, .int (1 : Int32), .int (0 : Int32)] [] I (cr_rf τ) 247) : cr_V Γ 0 [.ref 169, .null, .null] [] I (cr_rf τ) 247 := by
  refine cr_iconst h (v := (1 : Int32)) (by decide) dX1_choices_0 ?_
  refine cr_istore_n h (j := 1) rfl (by decide) rfl dX1_choices_1 ?_
  show cr_V Γ 2 [.ref 169, .int (1 : Int32), .null] [] I (cr_rf τ) 247
  refine cr_iconst h (v := (0 : Int32)) (by decide) dX1_choices_2 ?_
  refine cr_istore_n h (j := 2) rfl (by decide) rfl dX1_choices_3 ?_
  show cr_V Γ 4 [.ref 169, .int (1 : Int32), .int (0 : Int32)] [] I (cr_rf τ) 247
  exact cr_weak [true, true, true] hyp
theorem bk_yX1_choices_4 {Γ : cr_G} {K : cr_K} {τ : Nat → Nat} {I : cr_I} {x1 : Int32} {x2 : Int32} (hτ : cr_tau τ)  (h : cr_Ok yX1_choices cX1_choices 3 (some .int) (cr_rm0 0 0) K 247 247 Γ) (hyp : ((I 169 0) ≤ x2 → K (some (.int x1)) I (cr_rf τ)) ∧ (¬ (I 169 0) ≤ x2 → ((0 ≤ x2.toInt ∧ x2.toInt < 5) ∧ (0 ≤ x2.toInt ∧ x2.toInt < 5) ∧ (∀ v1 : Int32, v1 = (x1 * (((I 173 x2.toNatClampNeg) - (I 172 x2.toNatClampNeg)) + (1 : Int32))) → (∀ v2 : Int32, v2 = x2 + (1 : Int32) → cr_V Γ 4 [.ref 169, .int v1, .int v2] [] I (cr_rf τ) 247))))) : cr_V Γ 4 [.ref 169, .int x1, .int x2] [] I (cr_rf τ) 247 := by
  refine cr_iload_n h (j := 2) rfl rfl dX1_choices_4 ?_
  refine cr_aload_n h (j := 0) rfl rfl dX1_choices_5 ?_
  refine cr_getI h (k := 0) cr_clsX1 (by decide) rfl rfl wf_X1_9 (by decide) rfl dX1_choices_6 ?_
  refine cr_icmp_ge h (tgt := 36) (by decide) dX1_choices_9 (fun c1 => ?_) (fun c1 => ?_)
  · have hyp := hyp.1 c1
    refine cr_iload_n h (j := 1) rfl rfl dX1_choices_36 ?_
    refine cr_iret h rfl rfl rfl dX1_choices_37 ?_
    exact hyp
  · have hyp := hyp.2 c1
    refine cr_iload_n h (j := 1) rfl rfl dX1_choices_12 ?_
    refine cr_aload_n h (j := 0) rfl rfl dX1_choices_13 ?_
    refine cr_getR h (k := 4) cr_clsX1 (by decide) rfl rfl wf_X1_25 (by decide) rfl rfl dX1_choices_14 ?_
    refine cr_iload_n h (j := 2) rfl rfl dX1_choices_17 ?_
    refine cs_ild h (by decide) rfl hyp.1 (q := x2.toNatClampNeg) rfl dX1_choices_18 ?_
    have hyp := hyp.2
    refine cr_aload_n h (j := 0) rfl rfl dX1_choices_19 ?_
    refine cr_getR h (k := 3) cr_clsX1 (by decide) rfl rfl wf_X1_22 (by decide) rfl rfl dX1_choices_20 ?_
    refine cr_iload_n h (j := 2) rfl rfl dX1_choices_23 ?_
    refine cs_ild h (by decide) rfl hyp.1 (q := x2.toNatClampNeg) rfl dX1_choices_24 ?_
    have hyp := hyp.2
    refine cr_isub h dX1_choices_25 ?_
    refine cr_iconst h (v := (1 : Int32)) (by decide) dX1_choices_26 ?_
    refine cr_iadd h dX1_choices_27 ?_
    refine cr_imul h dX1_choices_28 ?_
    refine cs_i_n h 1 rfl (by decide) rfl dX1_choices_29 (fun v1 ev1 => ?_)
    have hyp := hyp v1 ev1
    show cr_V Γ 30 [.ref 169, .int v1, .int x2] [] I (cr_rf τ) 247
    refine cs_inc h (v := (1 : Int32)) 2 rfl (by decide) (by decide) rfl dX1_choices_30 (fun v2 ev2 => ?_)
    have hyp := hyp v2 ev2
    show cr_V Γ 33 [.ref 169, .int v1, .int v2] [] I (cr_rf τ) 247
    refine cr_goto h (tgt := 4) (by decide) dX1_choices_33 ?_
    exact cr_weak [true, true, true] hyp
abbrev T_yX1_choices : cr_T := fun vs I R K => ∃ (τ : Nat → Nat), R = cr_rf τ ∧ cr_tau τ ∧ vs = [.ref 169] ∧ p_yX1_choices τ I ∧ K (some (.int (f_yX1_choices τ I))) I (cr_rf τ)
abbrev S_yX1_choices : Prop := cr_C yX1_choices cX1_choices 3 (some .int) (cr_rm0 0 0) 247 247 T_yX1_choices
theorem G_yX1_choices (H : ∀ (Γ : cr_G) (K : cr_K) (τ : Nat → Nat) (I : cr_I), cr_tau τ → cr_Ok yX1_choices cX1_choices 3 (some .int) (cr_rm0 0 0) K 247 247 Γ → p_yX1_choices τ I → K (some (.int (f_yX1_choices τ I))) I (cr_rf τ) → cr_V Γ 0 [.ref 169, .null, .null] [] I (cr_rf τ) 247) : cr_C yX1_choices cX1_choices 3 (some .int) (cr_rm0 0 0) 247 247 T_yX1_choices := by
  refine cr_C.of (by decide +kernel) (fun vs I R K hT => ?_) (fun Γ K h vs I R hT => ?_)
  · obtain ⟨τ, rfl, hτ, rfl, hp, hK⟩ := hT
    exact Nat.le_of_ble_eq_true rfl
  · obtain ⟨τ, rfl, hτ, rfl, hp, hK⟩ := hT
    exact H Γ K τ I hτ h hp hK
theorem C_yX1_choices : S_yX1_choices := G_yX1_choices (by
  intro Γ K τ I hτ h hp hK
  obtain ⟨hn, hw⟩ := hp
  obtain ⟨eN, hN⟩ := cr_ofI (B := 5) hn.1 hn.2
  have eN' : I 169 0 = nI (cr_jn I) := eN
  have hN' : cr_jn I ≤ 5 := hN
  unfold f_yX1_choices at hK
  refine bk_yX1_choices_0 hτ h ?_
  refine cr_loop (fun j => cr_V Γ 4 [.ref 169, .int (nI (cr_chN (I 172) (I 173) j)), .int (nI j)] [] I (cr_rf τ) 247) (cr_jn I) ?_ ?_ 0 (Nat.zero_le _)
  · refine bk_yX1_choices_4 hτ h ⟨fun _ => hK, fun c => absurd ?_ c⟩
    rw [eN']; exact Int32.le_refl _
  · intro j hj ih
    have hxj : (0 : Int) ≤ (nI j).toInt ∧ (nI j).toInt < 5 := cr_ix (by omega) (by omega)
    have hwj := hw j hj
    refine bk_yX1_choices_4 hτ h ⟨fun c => absurd c ?_, fun _ => ⟨hxj, hxj, ?_⟩⟩
    · rw [eN']; exact cr_nle hj (by omega)
    · rw [cr_nc (by omega)]
      rintro v rfl w rfl
      have es : I 173 j - I 172 j + 1 = nI (cr_sz (I 172) (I 173) j) := by
        apply Int32.toInt_inj.mp
        have one : (1 : Int32).toInt = 1 := rfl
        have e1 : (I 173 j - I 172 j).toInt = (I 173 j).toInt - (I 172 j).toInt := cr_sub (by omega)
        rw [cr_add (by omega), e1, cr_nt (by unfold cr_sz; omega)]
        unfold cr_sz
        omega
      rw [nI_1, es, pk_mul]
      exact ih)
def cr_jcF (I : cr_I) (h : Nat → Int32) : Int32 := cr_costS (cr_jn I) (I 170) (I 171) (I 172) h (cr_jmw I) (I 130 3) (I 130 4) (cr_jn I)
def cr_jh0 (I : cr_I) (i : Nat) : Int32 := if i < cr_jn I then I 172 i else I 175 i
def cr_jbs (I : cr_I) : Int32 × (Nat → Int32) := cr_bsS (cr_jcF I) (cr_sq (I 172) (I 173) (cr_jn I) (cr_jh0 I)) (cr_chN (I 172) (I 173) (cr_jn I) - 1)
def p_yX1_findBest (τ : Nat → Nat) (I : cr_I) : Prop := cr_jok I ∧ cr_hw (cr_jn I) (I 172) (I 173)
def q_yX1_findBest (τ : Nat → Nat) (I : cr_I) (r : Int32) (J : cr_I) : Prop := cr_fr 175 176 I J ∧ r = (cr_jbs I).1 ∧ ∀ i, i < 5 → J 176 i = (cr_jbs I).2 i
theorem bk_yX1_findBest_0 {Γ : cr_G} {K : cr_K} {τ : Nat → Nat} {I : cr_I}  (hτ : cr_tau τ)  (h : cr_Ok yX1_findBest cX1_findBest 6 (some .int) (cr_rm0 3 74) K 247 247 Γ) (hyp : cr_V Γ 2 [.ref 169, .ref 27, .int (0 : Int32), .null, .null, .null] [] I (cr_rf τ) 247) : cr_V Γ 0 [.ref 169, .ref 27, .null, .null, .null, .null] [] I (cr_rf τ) 247 := by
  refine cr_iconst h (v := (0 : Int32)) (by decide) dX1_findBest_0 ?_
  refine cr_istore_n h (j := 2) rfl (by decide) rfl dX1_findBest_1 ?_
  show cr_V Γ 2 [.ref 169, .ref 27, .int (0 : Int32), .null, .null, .null] [] I (cr_rf τ) 247
  exact cr_weak [true, true, true, false, false, false] hyp
theorem bk_yX1_findBest_2 {Γ : cr_G} {K : cr_K} {τ : Nat → Nat} {I : cr_I} {x2 : Int32} (hτ : cr_tau τ)  (h : cr_Ok yX1_findBest cX1_findBest 6 (some .int) (cr_rm0 3 74) K 247 247 Γ) (hyp : ((I 169 0) ≤ x2 → (p_yX1_cost τ I ∧ (∀ v1 : Int32, v1 = (f_yX1_cost τ I) → (∀ J1 : cr_I, J1 = cr_cpI I 175 176 0 0 5 → (p_yX1_choices τ J1 ∧ (∀ v2 : Int32, v2 = (f_yX1_choices τ J1) → cr_V Γ 56 [.ref 169, .ref 27, .int v1, .int v2, .int (1 : Int32), .null] [] J1 (cr_rf τ) 247)))))) ∧ (¬ (I 169 0) ≤ x2 → ((0 ≤ x2.toInt ∧ x2.toInt < 5) ∧ (0 ≤ x2.toInt ∧ x2.toInt < 5) ∧ (∀ J2 : cr_I, J2 = cr_up I 175 x2.toNatClampNeg (I 172 x2.toNatClampNeg) → (∀ v3 : Int32, v3 = x2 + (1 : Int32) → cr_V Γ 2 [.ref 169, .ref 27, .int v3, .null, .null, .null] [] J2 (cr_rf τ) 247))))) : cr_V Γ 2 [.ref 169, .ref 27, .int x2, .null, .null, .null] [] I (cr_rf τ) 247 := by
  refine cr_iload_n h (j := 2) rfl rfl dX1_findBest_2 ?_
  refine cr_aload_n h (j := 0) rfl rfl dX1_findBest_3 ?_
  refine cr_getI h (k := 0) cr_clsX1 (by decide) rfl rfl wf_X1_9 (by decide) rfl dX1_findBest_4 ?_
  refine cr_icmp_ge h (tgt := 28) (by decide) dX1_findBest_7 (fun c1 => ?_) (fun c1 => ?_)
  · have hyp := hyp.1 c1
    refine cr_aload_n h (j := 0) rfl rfl dX1_findBest_28 ?_
    refine cr_aload_n h (j := 1) rfl rfl dX1_findBest_29 ?_
    refine cr_callV h (c0 := 1) (T0 := TX1) C_yX1_cost cZ_yX1_cost wm_X1_69 wv_yX1_cost we_yX1_cost (by decide) rfl rfl (cr_rmS (by decide) (by decide)) (As := [.ref 27]) rfl (Nat.le_of_ble_eq_true rfl) dX1_findBest_30 ⟨τ, rfl, hτ, rfl, hyp.1, ?_⟩
    have hyp := hyp.2
    show cr_V Γ 33 [.ref 169, .ref 27, .int x2, .null, .null, .null] [.int (f_yX1_cost τ I)] I (cr_rf τ) 247
    refine cs_i_n h 2 rfl (by decide) rfl dX1_findBest_33 (fun v1 ev1 => ?_)
    have hyp := hyp v1 ev1
    show cr_V Γ 34 [.ref 169, .ref 27, .int v1, .null, .null, .null] [] I (cr_rf τ) 247
    refine cr_aload_n h (j := 0) rfl rfl dX1_findBest_34 ?_
    refine cr_getR h (k := 6) cr_clsX1 (by decide) rfl rfl wf_X1_31 (by decide) rfl rfl dX1_findBest_35 ?_
    refine cr_iconst h (v := (0 : Int32)) (by decide) dX1_findBest_38 ?_
    refine cr_aload_n h (j := 0) rfl rfl dX1_findBest_39 ?_
    refine cr_getR h (k := 7) cr_clsX1 (by decide) rfl rfl wf_X1_34 (by decide) rfl rfl dX1_findBest_40 ?_
    refine cr_iconst h (v := (0 : Int32)) (by decide) dX1_findBest_43 ?_
    refine cr_iconst h (v := (5 : Int32)) (by decide) dX1_findBest_44 ?_
    refine cs_acopy h wm_X1_73 rfl (by decide) (by decide) rfl rfl (by decide) (by decide) (by decide) (by decide) (by decide) (by decide) ⟨by decide, by decide⟩ (a := 0) (c := 0) (m := 5) (by decide) (by decide) (by decide) dX1_findBest_45 (fun J1 eJ1 => ?_)
    have hyp := hyp J1 eJ1
    refine cr_aload_n h (j := 0) rfl rfl dX1_findBest_48 ?_
    refine cr_callV h (c0 := 1) (T0 := TX1) C_yX1_choices cZ_yX1_choices wm_X1_79 wv_yX1_choices we_yX1_choices (by decide) rfl rfl (cr_rmS (by decide) (by decide)) (As := []) rfl (Nat.le_of_ble_eq_true rfl) dX1_findBest_49 ⟨τ, rfl, hτ, rfl, hyp.1, ?_⟩
    have hyp := hyp.2
    show cr_V Γ 52 [.ref 169, .ref 27, .int v1, .null, .null, .null] [.int (f_yX1_choices τ J1)] J1 (cr_rf τ) 247
    refine cs_i_n h 3 rfl (by decide) rfl dX1_findBest_52 (fun v2 ev2 => ?_)
    have hyp := hyp v2 ev2
    show cr_V Γ 53 [.ref 169, .ref 27, .int v1, .int v2, .null, .null] [] J1 (cr_rf τ) 247
    refine cr_iconst h (v := (1 : Int32)) (by decide) dX1_findBest_53 ?_
    refine cr_istore h (by decide) rfl dX1_findBest_54 ?_
    show cr_V Γ 56 [.ref 169, .ref 27, .int v1, .int v2, .int (1 : Int32), .null] [] J1 (cr_rf τ) 247
    exact cr_weak [true, true, true, true, true, false] hyp
  · have hyp := hyp.2 c1
    refine cr_aload_n h (j := 0) rfl rfl dX1_findBest_10 ?_
    refine cr_getR h (k := 6) cr_clsX1 (by decide) rfl rfl wf_X1_31 (by decide) rfl rfl dX1_findBest_11 ?_
    refine cr_iload_n h (j := 2) rfl rfl dX1_findBest_14 ?_
    refine cr_aload_n h (j := 0) rfl rfl dX1_findBest_15 ?_
    refine cr_getR h (k := 3) cr_clsX1 (by decide) rfl rfl wf_X1_22 (by decide) rfl rfl dX1_findBest_16 ?_
    refine cr_iload_n h (j := 2) rfl rfl dX1_findBest_19 ?_
    refine cs_ild h (by decide) rfl hyp.1 (q := x2.toNatClampNeg) rfl dX1_findBest_20 ?_
    have hyp := hyp.2
    refine cs_ist h (by decide) (by decide) rfl hyp.1 (q := x2.toNatClampNeg) rfl dX1_findBest_21 (fun J2 eJ2 => ?_)
    have hyp := hyp.2 J2 eJ2
    refine cs_inc h (v := (1 : Int32)) 2 rfl (by decide) (by decide) rfl dX1_findBest_22 (fun v3 ev3 => ?_)
    have hyp := hyp v3 ev3
    show cr_V Γ 25 [.ref 169, .ref 27, .int v3, .null, .null, .null] [] J2 (cr_rf τ) 247
    refine cr_goto h (tgt := 2) (by decide) dX1_findBest_25 ?_
    exact cr_weak [true, true, true, false, false, false] hyp
theorem bk_yX1_findBest_56 {Γ : cr_G} {K : cr_K} {τ : Nat → Nat} {I : cr_I} {x2 : Int32} {x3 : Int32} {x4 : Int32} (hτ : cr_tau τ)  (h : cr_Ok yX1_findBest cX1_findBest 6 (some .int) (cr_rm0 3 74) K 247 247 Γ) (hyp : (x3 ≤ x4 → K (some (.int x2)) I (cr_rf τ)) ∧ (¬ x3 ≤ x4 → (p_yX1_turn τ I ∧ (∀ (J3 : cr_I), q_yX1_turn τ I J3 → (p_yX1_cost τ J3 ∧ (∀ v4 : Int32, v4 = (f_yX1_cost τ J3) → ((x2 ≤ v4 → (∀ v5 : Int32, v5 = x4 + (1 : Int32) → cr_V Γ 56 [.ref 169, .ref 27, .int x2, .int x3, .int v5, .null] [] J3 (cr_rf τ) 247)) ∧ (¬ x2 ≤ v4 → (∀ J4 : cr_I, J4 = cr_cpI J3 175 176 0 0 5 → (∀ v6 : Int32, v6 = x4 + (1 : Int32) → cr_V Γ 56 [.ref 169, .ref 27, .int v4, .int x3, .int v6, .null] [] J4 (cr_rf τ) 247)))))))))) : cr_V Γ 56 [.ref 169, .ref 27, .int x2, .int x3, .int x4, .null] [] I (cr_rf τ) 247 := by
  refine cr_iload h rfl dX1_findBest_56 ?_
  refine cr_iload_n h (j := 3) rfl rfl dX1_findBest_58 ?_
  refine cr_icmp_ge h (tgt := 102) (by decide) dX1_findBest_59 (fun c2 => ?_) (fun c2 => ?_)
  · have hyp := hyp.1 c2
    refine cr_iload_n h (j := 2) rfl rfl dX1_findBest_102 ?_
    refine cr_iret h rfl rfl rfl dX1_findBest_103 ?_
    exact hyp
  · have hyp := hyp.2 c2
    refine cr_aload_n h (j := 0) rfl rfl dX1_findBest_62 ?_
    refine cr_callV h (c0 := 1) (T0 := TX1) C_yX1_turn cZ_yX1_turn wm_X1_83 wv_yX1_turn we_yX1_turn (by decide) rfl rfl (cr_rmS (by decide) (by decide)) (As := []) rfl (Nat.le_of_ble_eq_true rfl) dX1_findBest_63 ⟨τ, rfl, hτ, rfl, hyp.1, fun J3 q1 => ?_⟩
    have hyp := hyp.2 J3 q1
    show cr_V Γ 66 [.ref 169, .ref 27, .int x2, .int x3, .int x4, .null] [] J3 (cr_rf τ) 247
    refine cr_aload_n h (j := 0) rfl rfl dX1_findBest_66 ?_
    refine cr_aload_n h (j := 1) rfl rfl dX1_findBest_67 ?_
    refine cr_callV h (c0 := 1) (T0 := TX1) C_yX1_cost cZ_yX1_cost wm_X1_69 wv_yX1_cost we_yX1_cost (by decide) rfl rfl (cr_rmS (by decide) (by decide)) (As := [.ref 27]) rfl (Nat.le_of_ble_eq_true rfl) dX1_findBest_68 ⟨τ, rfl, hτ, rfl, hyp.1, ?_⟩
    have hyp := hyp.2
    show cr_V Γ 71 [.ref 169, .ref 27, .int x2, .int x3, .int x4, .null] [.int (f_yX1_cost τ J3)] J3 (cr_rf τ) 247
    refine cs_i h 5 (by decide) rfl dX1_findBest_71 (fun v4 ev4 => ?_)
    have hyp := hyp v4 ev4
    show cr_V Γ 73 [.ref 169, .ref 27, .int x2, .int x3, .int x4, .int v4] [] J3 (cr_rf τ) 247
    refine cr_iload h rfl dX1_findBest_73 ?_
    refine cr_iload_n h (j := 2) rfl rfl dX1_findBest_75 ?_
    refine cr_icmp_ge h (tgt := 96) (by decide) dX1_findBest_76 (fun c3 => ?_) (fun c3 => ?_)
    · have hyp := hyp.1 c3
      refine cs_inc h (v := (1 : Int32)) 4 rfl (by decide) (by decide) rfl dX1_findBest_96 (fun v5 ev5 => ?_)
      have hyp := hyp v5 ev5
      show cr_V Γ 99 [.ref 169, .ref 27, .int x2, .int x3, .int v5, .int v4] [] J3 (cr_rf τ) 247
      refine cr_goto h (tgt := 56) (by decide) dX1_findBest_99 ?_
      exact cr_weak [true, true, true, true, true, false] hyp
    · have hyp := hyp.2 c3
      refine cr_iload h rfl dX1_findBest_79 ?_
      refine cr_istore_n h (j := 2) rfl (by decide) rfl dX1_findBest_81 ?_
      show cr_V Γ 82 [.ref 169, .ref 27, .int v4, .int x3, .int x4, .int v4] [] J3 (cr_rf τ) 247
      refine cr_aload_n h (j := 0) rfl rfl dX1_findBest_82 ?_
      refine cr_getR h (k := 6) cr_clsX1 (by decide) rfl rfl wf_X1_31 (by decide) rfl rfl dX1_findBest_83 ?_
      refine cr_iconst h (v := (0 : Int32)) (by decide) dX1_findBest_86 ?_
      refine cr_aload_n h (j := 0) rfl rfl dX1_findBest_87 ?_
      refine cr_getR h (k := 7) cr_clsX1 (by decide) rfl rfl wf_X1_34 (by decide) rfl rfl dX1_findBest_88 ?_
      refine cr_iconst h (v := (0 : Int32)) (by decide) dX1_findBest_91 ?_
      refine cr_iconst h (v := (5 : Int32)) (by decide) dX1_findBest_92 ?_
      refine cs_acopy h wm_X1_73 rfl (by decide) (by decide) rfl rfl (by decide) (by decide) (by decide) (by decide) (by decide) (by decide) ⟨by decide, by decide⟩ (a := 0) (c := 0) (m := 5) (by decide) (by decide) (by decide) dX1_findBest_93 (fun J4 eJ4 => ?_)
      have hyp := hyp J4 eJ4
      refine cs_inc h (v := (1 : Int32)) 4 rfl (by decide) (by decide) rfl dX1_findBest_96 (fun v6 ev6 => ?_)
      have hyp := hyp v6 ev6
      show cr_V Γ 99 [.ref 169, .ref 27, .int v4, .int x3, .int v6, .int v4] [] J4 (cr_rf τ) 247
      refine cr_goto h (tgt := 56) (by decide) dX1_findBest_99 ?_
      exact cr_weak [true, true, true, true, true, false] hyp
abbrev T_yX1_findBest : cr_T := fun vs I R K => ∃ (τ : Nat → Nat), R = cr_rf τ ∧ cr_tau τ ∧ vs = [.ref 169, .ref 27] ∧ p_yX1_findBest τ I ∧ ∀ (r : Int32) J, q_yX1_findBest τ I r J → K (some (.int r)) J (cr_rf τ)
abbrev S_yX1_findBest : Prop := cr_C yX1_findBest cX1_findBest 6 (some .int) (cr_rm0 3 74) 247 247 T_yX1_findBest
theorem G_yX1_findBest (H : ∀ (Γ : cr_G) (K : cr_K) (τ : Nat → Nat) (I : cr_I), cr_tau τ → cr_Ok yX1_findBest cX1_findBest 6 (some .int) (cr_rm0 3 74) K 247 247 Γ → p_yX1_findBest τ I → (∀ (r : Int32) J, q_yX1_findBest τ I r J → K (some (.int r)) J (cr_rf τ)) → cr_V Γ 0 [.ref 169, .ref 27, .null, .null, .null, .null] [] I (cr_rf τ) 247) : cr_C yX1_findBest cX1_findBest 6 (some .int) (cr_rm0 3 74) 247 247 T_yX1_findBest := by
  refine cr_C.of (by decide +kernel) (fun vs I R K hT => ?_) (fun Γ K h vs I R hT => ?_)
  · obtain ⟨τ, rfl, hτ, rfl, hp, hK⟩ := hT
    exact Nat.le_of_ble_eq_true rfl
  · obtain ⟨τ, rfl, hτ, rfl, hp, hK⟩ := hT
    exact H Γ K τ I hτ h hp hK
theorem cr_fr.row {lo hi b : Nat} {I J : cr_I} (h : cr_fr lo hi I J) (hb : b < lo ∨ hi < b) : J b = I b := funext fun k => h b k hb
theorem cr_jf {I J : cr_I} (hf : cr_fr 175 176 I J) : cr_jn J = cr_jn I ∧ cr_jmw J = cr_jmw I ∧ (cr_jok I → cr_jok J) ∧ ∀ τ, f_yX1_cost τ J = cr_jcF I (J 175) := by
  have e0 : cr_jn J = cr_jn I := by unfold cr_jn; rw [hf 169 0 (by omega)]
  have e1 : cr_jmw J = cr_jmw I := funext fun j => by
    unfold cr_jmw
    rw [hf 174 j (by omega)]
    have : 29 + 25 * (I 174 j).toNatClampNeg < 175 ∨ 176 < 29 + 25 * (I 174 j).toNatClampNeg := by omega
    exact hf _ 0 this
  refine ⟨e0, e1, fun hok => ?_, fun τ => ?_⟩
  · unfold cr_jok at hok ⊢
    rw [e0, hf 169 0 (by omega), hf.row (b := 170) (by omega), hf.row (b := 171) (by omega), hf.row (b := 174) (by omega)]
    exact hok
  · unfold f_yX1_cost cr_jcF
    rw [e0, e1, hf.row (b := 170) (by omega), hf.row (b := 171) (by omega), hf.row (b := 172) (by omega), hf 130 3 (by omega), hf 130 4 (by omega)]
theorem cr_fr.wd {lo hi lo' hi' : Nat} {I J : cr_I} (h : cr_fr lo hi I J) (h1 : lo' ≤ lo) (h2 : hi ≤ hi') : cr_fr lo' hi' I J := fun b k hb => h b k (by omega)
theorem cr_cp5 {f g : Nat → Int32} {i : Nat} (h : i < 5) : va_cpy f g 0 0 5 i = f i := by
  unfold va_cpy
  rw [if_pos (by omega)]
  simp
theorem C_yX1_findBest : S_yX1_findBest := G_yX1_findBest (by
  intro Γ K τ I hτ h hp hK
  obtain ⟨hok, hw⟩ := hp
  have hok2 := hok
  obtain ⟨hn, hn5, hjw⟩ := hok
  obtain ⟨eN, hN⟩ := cr_ofI (B := 5) hn.1 hn.2
  have eN' : I 169 0 = nI (cr_jn I) := eN
  have hN' : cr_jn I ≤ 5 := hN
  obtain ⟨hC0, hC1⟩ := cr_chN_le hN' hw
  have h00 : ∀ i, i < cr_jn I → cr_jh0 I i = I 172 i := fun i hi => if_pos hi
  generalize hsq : cr_sq (I 172) (I 173) (cr_jn I) (cr_jh0 I) = sq
  generalize hCn : cr_chN (I 172) (I 173) (cr_jn I) = Cn at *
  have hK' : ∀ r J, cr_fr 175 176 I J → r = (cr_bsS (cr_jcF I) sq (Cn - 1)).1 → (∀ i, i < 5 → J 176 i = (cr_bsS (cr_jcF I) sq (Cn - 1)).2 i) → K (some (.int r)) J (cr_rf τ) := fun r J a b c => hK r J (by
    unfold q_yX1_findBest cr_jbs
    rw [hsq, hCn]
    exact ⟨a, b, c⟩)
  -- the turns
  have loop2 : ∀ J, cr_fr 175 176 I J → J 175 = sq 0 → (∀ i, i < 5 → J 176 i = (cr_bsS (cr_jcF I) sq 0).2 i) → cr_V Γ 56 [.ref 169, .ref 27, .int (cr_bsS (cr_jcF I) sq 0).1, .int (nI Cn), .int (nI 1), .null] [] J (cr_rf τ) 247 := by
    refine cr_loop (fun k => ∀ J, cr_fr 175 176 I J → J 175 = sq k → (∀ i, i < 5 → J 176 i = (cr_bsS (cr_jcF I) sq k).2 i) → cr_V Γ 56 [.ref 169, .ref 27, .int (cr_bsS (cr_jcF I) sq k).1, .int (nI Cn), .int (nI (k + 1)), .null] [] J (cr_rf τ) 247) (Cn - 1) ?_ ?_ 0 (Nat.zero_le _)
    · intro J hf e1 e2
      rw [show Cn - 1 + 1 = Cn by omega]
      exact bk_yX1_findBest_56 hτ h ⟨fun _ => hK' _ J hf rfl e2, fun c => absurd (Int32.le_refl _) c⟩
    · intro k hk ih J hf e1 e2
      obtain ⟨j0, j1, j2, j3⟩ := cr_jf hf
      refine bk_yX1_findBest_56 hτ h ⟨fun c => absurd c (nI_ge (by omega) (by omega)), fun _ => ⟨?_, ?_⟩⟩
      · unfold p_yX1_turn
        rw [hf 169 0 (by omega)]
        exact hn
      · rintro J3 ⟨hf3, e3⟩
        have hf3' := hf.tr (hf3.wd (lo' := 175) (hi' := 176) (by omega) (by omega))
        have esq : J3 175 = sq (k + 1) := by
          rw [e3, j0, hf.row (b := 172) (by omega), hf.row (b := 173) (by omega), e1, ← hsq]
          rfl
        obtain ⟨i0, i1, i2, i3⟩ := cr_jf hf3'
        have e176 : ∀ i, J3 176 i = J 176 i := fun i => hf3 176 i (by omega)
        refine ⟨i2 hok2, ?_⟩
        rw [i3 τ, esq]
        rintro v4 rfl
        refine ⟨fun c => ?_, fun c => ?_⟩
        · rintro v rfl
          rw [nI_1]
          have ih := ih J3 hf3' esq
          rw [cr_bsS, if_neg (Int32.not_lt.mpr c)] at ih
          exact ih (fun i hi => by rw [e176]; exact e2 i hi)
        · intro J4 e4
          rintro v rfl
          rw [nI_1]
          have hf4 : cr_fr 175 176 I J4 := fun b q hb => by rw [e4, cr_cpI_o (by omega)]; exact hf3' b q hb
          have ih := ih J4 hf4 (by rw [e4, cr_cpI_o (by omega), esq])
          rw [cr_bsS, if_pos (Int32.not_le.mp c)] at ih
          exact ih (fun i hi => by rw [e4, cr_cpI_s, cr_cp5 hi, esq])
  -- the first hours
  refine bk_yX1_findBest_0 hτ h ?_
  refine cr_loop (fun k => ∀ J, cr_fr 175 175 I J → (∀ i, J 175 i = if i < k then I 172 i else I 175 i) → cr_V Γ 2 [.ref 169, .ref 27, .int (nI k), .null, .null, .null] [] J (cr_rf τ) 247) (cr_jn I) ?_ ?_ 0 (Nat.zero_le _) I cr_fr.rf (fun i => by simp)
  · intro J hf e
    have hf' := hf.wd (lo' := 175) (hi' := 176) (by omega) (by omega)
    obtain ⟨j0, j1, j2, j3⟩ := cr_jf hf'
    have e175 : J 175 = sq 0 := by
      funext i
      rw [e i, ← hsq]
      rfl
    refine bk_yX1_findBest_2 hτ h ⟨fun _ => ⟨j2 hok2, ?_⟩, fun c => absurd ?_ c⟩
    · rw [j3 τ]
      rintro v1 rfl J1 e1
      have hf1 : cr_fr 175 176 I J1 := fun b q hb => by rw [e1, cr_cpI_o (by omega)]; exact hf' b q hb
      obtain ⟨i0, i1, i2, i3⟩ := cr_jf hf1
      refine ⟨⟨?_, ?_⟩, ?_⟩
      · rw [hf1 169 0 (by omega)]; exact hn
      · rw [i0, hf1.row (b := 172) (by omega), hf1.row (b := 173) (by omega)]; exact hw
      · unfold f_yX1_choices
        rw [i0, hf1.row (b := 172) (by omega), hf1.row (b := 173) (by omega), hCn]
        rintro v2 rfl
        rw [e175]
        refine loop2 _ hf1 ?_ (fun i hi => ?_)
        · rw [e1, cr_cpI_o (by omega), e175]
        · rw [e1, cr_cpI_s, cr_cp5 hi, e175]
          rfl
    · rw [hf 169 0 (by omega), eN']; exact Int32.le_refl _
  · intro k hk ih J hf e
    have hxk : (0 : Int) ≤ (nI k).toInt ∧ (nI k).toInt < 5 := cr_ix (by omega) (by omega)
    refine bk_yX1_findBest_2 hτ h ⟨fun c => absurd c ?_, fun _ => ⟨hxk, hxk, ?_⟩⟩
    · rw [hf 169 0 (by omega), eN']; exact cr_nle hk (by omega)
    · rw [cr_nc (by omega), hf 172 k (by omega)]
      rintro J2 rfl v rfl
      rw [nI_1]
      refine ih _ (hf.up (by omega) (by omega)) (fun i => ?_)
      by_cases q : i = k
      · rw [q, cr_up_s, if_pos (by omega)]
      · rw [cr_up_k q, e i]
        by_cases q2 : i < k
        · rw [if_pos q2, if_pos (by omega)]
        · rw [if_neg q2, if_neg (by omega)])
def t_yX8_best (τ : Nat → Nat) (x1 : Int32) (I : cr_I) (Q : Int32 → cr_I → Prop) : Prop := ((-1 : Int32) ≤ x1 → ((x1 < (I 169 0) → (p_yX1_findBest τ I ∧ (∀ (r1 : Int32) (J1 : cr_I), q_yX1_findBest τ I r1 J1 → ((¬ x1 = (-1 : Int32) → ((0 ≤ x1.toInt ∧ x1.toInt < 5) ∧ Q (J1 176 x1.toNatClampNeg) J1)) ∧ (x1 = (-1 : Int32) → Q r1 J1))))) ∧ (¬ x1 < (I 169 0) → Q (-1 : Int32) I))) ∧ (¬ (-1 : Int32) ≤ x1 → Q (-3 : Int32) I)
abbrev T_yX8_best : cr_T := fun vs I R K => ∃ (τ : Nat → Nat) (x1 : Int32) (Q : Int32 → cr_I → Prop), R = cr_rf τ ∧ cr_tau τ ∧ vs = [.ref 0, .int x1] ∧ t_yX8_best τ x1 I Q ∧ ∀ r J, Q r J → K (some (.int r)) J (cr_rf τ)
theorem C_yX8_best : cr_C yX8_best cX8_best 3 (some .int) (cr_rm0 4 99) 247 247 T_yX8_best := by
  refine cr_C.of (by decide +kernel) (fun vs I R K hT => ?_) (fun Γ K h vs I R hT => ?_)
  · obtain ⟨τ, x1, Q, rfl, hτ, rfl, hyp, hK⟩ := hT
    exact Nat.le_of_ble_eq_true rfl
  · obtain ⟨τ, x1, Q, rfl, hτ, rfl, hyp, hK⟩ := hT
    unfold t_yX8_best at hyp
    show cr_V Γ 0 [.ref 0, .int x1, .null] [] I (cr_rf τ) 247
    refine cr_iload_n h (j := 1) rfl rfl dX8_best_0 ?_
    refine cr_iconst h (v := (-1 : Int32)) (by decide) dX8_best_1 ?_
    refine cr_icmp_ge h (tgt := 8) (by decide) dX8_best_2 (fun c1 => ?_) (fun c1 => ?_)
    · have hyp := hyp.1 c1
      refine cr_iload_n h (j := 1) rfl rfl dX8_best_8 ?_
      refine cr_aload_n h (j := 0) rfl rfl dX8_best_9 ?_
      refine cr_getR h (k := 3) cr_clsX8 (by decide) rfl rfl wf_X8_33 (by decide) rfl rfl dX8_best_10 ?_
      refine cr_getI h (k := 0) cr_clsX1 (by decide) rfl rfl wf_X8_227 (by decide) rfl dX8_best_13 ?_
      refine cr_icmp_lt h (tgt := 21) (by decide) dX8_best_16 (fun c2 => ?_) (fun c2 => ?_)
      · have hyp := hyp.1 c2
        refine cr_aload_n h (j := 0) rfl rfl dX8_best_21 ?_
        refine cr_getR h (k := 3) cr_clsX8 (by decide) rfl rfl wf_X8_33 (by decide) rfl rfl dX8_best_22 ?_
        refine cr_aload_n h (j := 0) rfl rfl dX8_best_25 ?_
        refine cr_getR h (k := 1) cr_clsX8 (by decide) rfl rfl wf_X8_19 (by decide) rfl rfl dX8_best_26 ?_
        refine cr_callV h (c0 := 1) (T0 := TX1) C_yX1_findBest cZ_yX1_findBest wm_X8_245 wv_yX1_findBest we_yX1_findBest (by decide) rfl rfl (cr_rmS (by decide) (by decide)) (As := [.ref 27]) rfl (Nat.le_of_ble_eq_true rfl) dX8_best_29 ⟨τ, rfl, hτ, rfl, hyp.1, fun r1 J1 q1 => ?_⟩
        have hyp := hyp.2 r1 J1 q1
        show cr_V Γ 32 [.ref 0, .int x1, .null] [.int r1] J1 (cr_rf τ) 247
        refine cr_istore_n h (j := 2) rfl (by decide) rfl dX8_best_32 ?_
        show cr_V Γ 33 [.ref 0, .int x1, .int r1] [] J1 (cr_rf τ) 247
        refine cr_iload_n h (j := 1) rfl rfl dX8_best_33 ?_
        refine cr_iconst h (v := (-1 : Int32)) (by decide) dX8_best_34 ?_
        refine cr_icmp_ne h (tgt := 42) (by decide) dX8_best_35 (fun c3 => ?_) (fun c3 => ?_)
        · have hyp := hyp.1 c3
          refine cr_aload_n h (j := 0) rfl rfl dX8_best_42 ?_
          refine cr_getR h (k := 3) cr_clsX8 (by decide) rfl rfl wf_X8_33 (by decide) rfl rfl dX8_best_43 ?_
          refine cr_getR h (k := 7) cr_clsX1 (by decide) rfl rfl wf_X8_249 (by decide) rfl rfl dX8_best_46 ?_
          refine cr_iload_n h (j := 1) rfl rfl dX8_best_49 ?_
          refine cs_ild h (by decide) rfl hyp.1 (q := x1.toNatClampNeg) rfl dX8_best_50 ?_
          have hyp := hyp.2
          refine cr_iret h rfl rfl rfl dX8_best_51 ?_
          exact hK _ _ hyp
        · have hyp := hyp.2 c3
          refine cr_iload_n h (j := 2) rfl rfl dX8_best_38 ?_
          refine cr_goto h (tgt := 51) (by decide) dX8_best_39 ?_
          refine cr_iret h rfl rfl rfl dX8_best_51 ?_
          exact hK _ _ hyp
      · have hyp := hyp.2 c2
        refine cr_iconst h (v := (-1 : Int32)) (by decide) dX8_best_19 ?_
        refine cr_iret h rfl rfl rfl dX8_best_20 ?_
        exact hK _ _ hyp
    · have hyp := hyp.2 c1
      refine cr_bipush h (v := (-3 : Int32)) (by decide) dX8_best_5 ?_
      refine cr_iret h rfl rfl rfl dX8_best_7 ?_
      exact hK _ _ hyp
/-- judged hours -/
def cr_jgS (row : Int32) (fs : Nat → Int32) (i : Nat) : Int32 := fs i + ((row >>> (((3 : Int32) * nI i) &&& 31)) &&& 7)
def p_yX8_judge (τ : Nat → Nat) (x1 : Int32) (I : cr_I) : Prop := cr_jok I
def q_yX8_judge (τ : Nat → Nat) (x1 : Int32) (I : cr_I) (r : Int32) (J : cr_I) : Prop := cr_fr 175 175 I J ∧ (((∀ i, i < cr_jn I → cr_jgS x1 (I 172) i ≤ I 173 i) ∧ r = cr_jcF I (cr_jgS x1 (I 172))) ∨ ((∃ i, i < cr_jn I ∧ ¬ cr_jgS x1 (I 172) i ≤ I 173 i) ∧ r = -3))
theorem bk_yX8_judge_0 {Γ : cr_G} {K : cr_K} {τ : Nat → Nat} {I : cr_I} {x1 : Int32} (hτ : cr_tau τ)  (h : cr_Ok yX8_judge cX8_judge 4 (some .int) (cr_rm0 3 74) K 247 247 Γ) (hyp : cr_V Γ 2 [.ref 0, .int x1, .int (0 : Int32), .null] [] I (cr_rf τ) 247) : cr_V Γ 0 [.ref 0, .int x1, .null, .null] [] I (cr_rf τ) 247 := by
  refine cr_iconst h (v := (0 : Int32)) (by decide) dX8_judge_0 ?_
  refine cr_istore_n h (j := 2) rfl (by decide) rfl dX8_judge_1 ?_
  show cr_V Γ 2 [.ref 0, .int x1, .int (0 : Int32), .null] [] I (cr_rf τ) 247
  exact cr_weak [true, true, true, false] hyp
theorem bk_yX8_judge_2 {Γ : cr_G} {K : cr_K} {τ : Nat → Nat} {I : cr_I} {x1 : Int32} {x2 : Int32} (hτ : cr_tau τ)  (h : cr_Ok yX8_judge cX8_judge 4 (some .int) (cr_rm0 3 74) K 247 247 Γ) (hyp : ((I 169 0) ≤ x2 → (p_yX1_cost τ I ∧ K (some (.int (f_yX1_cost τ I))) I (cr_rf τ))) ∧ (¬ (I 169 0) ≤ x2 → ((0 ≤ x2.toInt ∧ x2.toInt < 5) ∧ (∀ v1 : Int32, v1 = ((I 172 x2.toNatClampNeg) + ((x1 >>> (((3 : Int32) * x2) &&& 31)) &&& (7 : Int32))) → ((0 ≤ x2.toInt ∧ x2.toInt < 5) ∧ (v1 ≤ (I 173 x2.toNatClampNeg) → ((0 ≤ x2.toInt ∧ x2.toInt < 5) ∧ (∀ J1 : cr_I, J1 = cr_up I 175 x2.toNatClampNeg v1 → (∀ v2 : Int32, v2 = x2 + (1 : Int32) → cr_V Γ 2 [.ref 0, .int x1, .int v2, .null] [] J1 (cr_rf τ) 247)))) ∧ (¬ v1 ≤ (I 173 x2.toNatClampNeg) → K (some (.int (-3 : Int32))) I (cr_rf τ))))))) : cr_V Γ 2 [.ref 0, .int x1, .int x2, .null] [] I (cr_rf τ) 247 := by
  refine cr_iload_n h (j := 2) rfl rfl dX8_judge_2 ?_
  refine cr_aload_n h (j := 0) rfl rfl dX8_judge_3 ?_
  refine cr_getR h (k := 3) cr_clsX8 (by decide) rfl rfl wf_X8_33 (by decide) rfl rfl dX8_judge_4 ?_
  refine cr_getI h (k := 0) cr_clsX1 (by decide) rfl rfl wf_X8_227 (by decide) rfl dX8_judge_7 ?_
  refine cr_icmp_ge h (tgt := 64) (by decide) dX8_judge_10 (fun c1 => ?_) (fun c1 => ?_)
  · have hyp := hyp.1 c1
    refine cr_aload_n h (j := 0) rfl rfl dX8_judge_64 ?_
    refine cr_getR h (k := 3) cr_clsX8 (by decide) rfl rfl wf_X8_33 (by decide) rfl rfl dX8_judge_65 ?_
    refine cr_aload_n h (j := 0) rfl rfl dX8_judge_68 ?_
    refine cr_getR h (k := 1) cr_clsX8 (by decide) rfl rfl wf_X8_19 (by decide) rfl rfl dX8_judge_69 ?_
    refine cr_callV h (c0 := 1) (T0 := TX1) C_yX1_cost cZ_yX1_cost wm_X8_255 wv_yX1_cost we_yX1_cost (by decide) rfl rfl (cr_rmS (by decide) (by decide)) (As := [.ref 27]) rfl (Nat.le_of_ble_eq_true rfl) dX8_judge_72 ⟨τ, rfl, hτ, rfl, hyp.1, ?_⟩
    have hyp := hyp.2
    show cr_V Γ 75 [.ref 0, .int x1, .int x2, .null] [.int (f_yX1_cost τ I)] I (cr_rf τ) 247
    refine cr_iret h rfl rfl rfl dX8_judge_75 ?_
    exact hyp
  · have hyp := hyp.2 c1
    refine cr_aload_n h (j := 0) rfl rfl dX8_judge_13 ?_
    refine cr_getR h (k := 3) cr_clsX8 (by decide) rfl rfl wf_X8_33 (by decide) rfl rfl dX8_judge_14 ?_
    refine cr_getR h (k := 3) cr_clsX1 (by decide) rfl rfl wf_X8_236 (by decide) rfl rfl dX8_judge_17 ?_
    refine cr_iload_n h (j := 2) rfl rfl dX8_judge_20 ?_
    refine cs_ild h (by decide) rfl hyp.1 (q := x2.toNatClampNeg) rfl dX8_judge_21 ?_
    have hyp := hyp.2
    refine cr_iload_n h (j := 1) rfl rfl dX8_judge_22 ?_
    refine cr_iconst h (v := (3 : Int32)) (by decide) dX8_judge_23 ?_
    refine cr_iload_n h (j := 2) rfl rfl dX8_judge_24 ?_
    refine cr_imul h dX8_judge_25 ?_
    refine cr_ishr h dX8_judge_26 ?_
    refine cr_bipush h (v := (7 : Int32)) (by decide) dX8_judge_27 ?_
    refine cr_iand h dX8_judge_29 ?_
    refine cr_iadd h dX8_judge_30 ?_
    refine cs_i_n h 3 rfl (by decide) rfl dX8_judge_31 (fun v1 ev1 => ?_)
    have hyp := hyp v1 ev1
    show cr_V Γ 32 [.ref 0, .int x1, .int x2, .int v1] [] I (cr_rf τ) 247
    refine cr_iload_n h (j := 3) rfl rfl dX8_judge_32 ?_
    refine cr_aload_n h (j := 0) rfl rfl dX8_judge_33 ?_
    refine cr_getR h (k := 3) cr_clsX8 (by decide) rfl rfl wf_X8_33 (by decide) rfl rfl dX8_judge_34 ?_
    refine cr_getR h (k := 4) cr_clsX1 (by decide) rfl rfl wf_X8_239 (by decide) rfl rfl dX8_judge_37 ?_
    refine cr_iload_n h (j := 2) rfl rfl dX8_judge_40 ?_
    refine cs_ild h (by decide) rfl hyp.1 (q := x2.toNatClampNeg) rfl dX8_judge_41 ?_
    have hyp := hyp.2
    refine cr_icmp_le h (tgt := 48) (by decide) dX8_judge_42 (fun c2 => ?_) (fun c2 => ?_)
    · have hyp := hyp.1 c2
      refine cr_aload_n h (j := 0) rfl rfl dX8_judge_48 ?_
      refine cr_getR h (k := 3) cr_clsX8 (by decide) rfl rfl wf_X8_33 (by decide) rfl rfl dX8_judge_49 ?_
      refine cr_getR h (k := 6) cr_clsX1 (by decide) rfl rfl wf_X8_252 (by decide) rfl rfl dX8_judge_52 ?_
      refine cr_iload_n h (j := 2) rfl rfl dX8_judge_55 ?_
      refine cr_iload_n h (j := 3) rfl rfl dX8_judge_56 ?_
      refine cs_ist h (by decide) (by decide) rfl hyp.1 (q := x2.toNatClampNeg) rfl dX8_judge_57 (fun J1 eJ1 => ?_)
      have hyp := hyp.2 J1 eJ1
      refine cs_inc h (v := (1 : Int32)) 2 rfl (by decide) (by decide) rfl dX8_judge_58 (fun v2 ev2 => ?_)
      have hyp := hyp v2 ev2
      show cr_V Γ 61 [.ref 0, .int x1, .int v2, .int v1] [] J1 (cr_rf τ) 247
      refine cr_goto h (tgt := 2) (by decide) dX8_judge_61 ?_
      exact cr_weak [true, true, true, false] hyp
    · have hyp := hyp.2 c2
      refine cr_bipush h (v := (-3 : Int32)) (by decide) dX8_judge_45 ?_
      refine cr_iret h rfl rfl rfl dX8_judge_47 ?_
      exact hyp
abbrev T_yX8_judge : cr_T := fun vs I R K => ∃ (τ : Nat → Nat) (x1 : Int32), R = cr_rf τ ∧ cr_tau τ ∧ vs = [.ref 0, .int x1] ∧ p_yX8_judge τ x1 I ∧ ∀ (r : Int32) J, q_yX8_judge τ x1 I r J → K (some (.int r)) J (cr_rf τ)
abbrev S_yX8_judge : Prop := cr_C yX8_judge cX8_judge 4 (some .int) (cr_rm0 3 74) 247 247 T_yX8_judge
theorem G_yX8_judge (H : ∀ (Γ : cr_G) (K : cr_K) (τ : Nat → Nat) (x1 : Int32) (I : cr_I), cr_tau τ → cr_Ok yX8_judge cX8_judge 4 (some .int) (cr_rm0 3 74) K 247 247 Γ → p_yX8_judge τ x1 I → (∀ (r : Int32) J, q_yX8_judge τ x1 I r J → K (some (.int r)) J (cr_rf τ)) → cr_V Γ 0 [.ref 0, .int x1, .null, .null] [] I (cr_rf τ) 247) : cr_C yX8_judge cX8_judge 4 (some .int) (cr_rm0 3 74) 247 247 T_yX8_judge := by
  refine cr_C.of (by decide +kernel) (fun vs I R K hT => ?_) (fun Γ K h vs I R hT => ?_)
  · obtain ⟨τ, x1, rfl, hτ, rfl, hp, hK⟩ := hT
    exact Nat.le_of_ble_eq_true rfl
  · obtain ⟨τ, x1, rfl, hτ, rfl, hp, hK⟩ := hT
    exact H Γ K τ x1 I hτ h hp hK
theorem C_yX8_judge : S_yX8_judge := G_yX8_judge (by
  intro Γ K τ x1 I hτ h hp hK
  have hok2 := hp
  obtain ⟨hn, hn5, hjw⟩ := hp
  obtain ⟨eN, hN⟩ := cr_ofI (B := 5) hn.1 hn.2
  have eN' : I 169 0 = nI (cr_jn I) := eN
  have hN' : cr_jn I ≤ 5 := hN
  refine bk_yX8_judge_0 hτ h ?_
  refine cr_loop (fun k => ∀ J, cr_fr 175 175 I J → (∀ i, i < k → J 175 i = cr_jgS x1 (I 172) i ∧ cr_jgS x1 (I 172) i ≤ I 173 i) → cr_V Γ 2 [.ref 0, .int x1, .int (nI k), .null] [] J (cr_rf τ) 247) (cr_jn I) ?_ ?_ 0 (Nat.zero_le _) I cr_fr.rf (fun i hi => absurd hi (Nat.not_lt_zero _))
  · intro J hf e
    obtain ⟨j0, j1, j2, j3⟩ := cr_jf (hf.wd (lo' := 175) (hi' := 176) (by omega) (by omega))
    refine bk_yX8_judge_2 hτ h ⟨fun _ => ⟨j2 hok2, ?_⟩, fun c => absurd ?_ c⟩
    · refine hK _ J ⟨hf, Or.inl ⟨fun i hi => (e i hi).2, ?_⟩⟩
      rw [j3 τ]
      exact cr_costS_c (fun i hi => (e i hi).1) _ (Nat.le_refl _)
    · rw [hf 169 0 (by omega), eN']; exact Int32.le_refl _
  · intro k hk ih J hf e
    have hxk : (0 : Int) ≤ (nI k).toInt ∧ (nI k).toInt < 5 := cr_ix (by omega) (by omega)
    refine bk_yX8_judge_2 hτ h ⟨fun c => absurd c ?_, fun _ => ⟨hxk, ?_⟩⟩
    · rw [hf 169 0 (by omega), eN']; exact cr_nle hk (by omega)
    · rw [cr_nc (by omega), hf 172 k (by omega), hf 173 k (by omega)]
      intro v1 e1
      have e1' : v1 = cr_jgS x1 (I 172) k := e1
      refine ⟨hxk, fun c => ⟨hxk, ?_⟩, fun c => ?_⟩
      · rintro J1 rfl v rfl
        rw [nI_1]
        refine ih _ (hf.up (by omega) (by omega)) (fun i hi => ?_)
        by_cases q : i = k
        · rw [q, cr_up_s, ← e1']; exact ⟨rfl, c⟩
        · rw [cr_up_k q]; exact e i (by omega)
      · exact hK _ J ⟨hf, Or.inr ⟨⟨k, hk, by rw [← e1']; exact c⟩, rfl⟩⟩)
/-! the reference -/
def cr_mjcF (I : cr_I) (h : Nat → Int32) : Int32 := cr_costS (cr_mjn I) (I 221) (I 222) (I 223) h (cr_mjmw I) (I 214 3) (I 214 4) (cr_mjn I)
def cr_mjh0 (I : cr_I) (i : Nat) : Int32 := if i < cr_mjn I then I 223 i else I 243 i
def cr_mjbs (I : cr_I) : Int32 × (Nat → Int32) := cr_bsS (cr_mjcF I) (cr_sq (I 223) (I 224) (cr_mjn I) (cr_mjh0 I)) (cr_chN (I 223) (I 224) (cr_mjn I) - 1)
def p_yX9_judge (τ : Nat → Nat) (x1 : Int32) (I : cr_I) : Prop := cr_mjok I
def q_yX9_judge (τ : Nat → Nat) (x1 : Int32) (I : cr_I) (r : Int32) (J : cr_I) : Prop := cr_fr 243 243 I J ∧ (((∀ i, i < cr_mjn I → cr_jgS x1 (I 223) i ≤ I 224 i) ∧ r = cr_mjcF I (cr_jgS x1 (I 223))) ∨ ((∃ i, i < cr_mjn I ∧ ¬ cr_jgS x1 (I 223) i ≤ I 224 i) ∧ r = -3))
theorem cr_mjf {I J : cr_I} (hf : cr_fr 243 244 I J) : cr_mjn J = cr_mjn I ∧ cr_mjmw J = cr_mjmw I ∧ (cr_mjok I → cr_mjok J) ∧ ∀ τ, f_yX9_burnt τ J = cr_mjcF I (J 243) := by
  have e0 : cr_mjn J = cr_mjn I := by unfold cr_mjn; rw [hf 200 34 (by omega)]
  have e1 : cr_mjmw J = cr_mjmw I := funext fun j => by
    unfold cr_mjmw
    rw [hf 225 j (by omega), hf 201 _ (by omega)]
  refine ⟨e0, e1, fun hok => ?_, fun τ => ?_⟩
  · unfold cr_mjok at hok ⊢
    rw [e0, hf 200 34 (by omega), hf.row (b := 221) (by omega), hf.row (b := 222) (by omega), hf.row (b := 225) (by omega), hf.row (b := 201) (by omega)]
    exact hok
  · unfold f_yX9_burnt cr_mjcF
    rw [e0, e1, hf.row (b := 221) (by omega), hf.row (b := 222) (by omega), hf.row (b := 223) (by omega), hf 214 3 (by omega), hf 214 4 (by omega)]
theorem bk_yX9_judge_0 {Γ : cr_G} {K : cr_K} {τ : Nat → Nat} {I : cr_I} {x1 : Int32} (hτ : cr_tau τ)  (h : cr_Ok yX9_judge cX9_judge 3 (some .int) (cr_rm0 4 99) K 247 247 Γ) (hyp : cr_V Γ 2 [.ref 200, .int x1, .int (0 : Int32)] [] I (cr_rf τ) 247) : cr_V Γ 0 [.ref 200, .int x1, .null] [] I (cr_rf τ) 247 := by
  refine cr_iconst h (v := (0 : Int32)) (by decide) dX9_judge_0 ?_
  refine cr_istore_n h (j := 2) rfl (by decide) rfl dX9_judge_1 ?_
  show cr_V Γ 2 [.ref 200, .int x1, .int (0 : Int32)] [] I (cr_rf τ) 247
  exact cr_weak [true, true, true] hyp
theorem bk_yX9_judge_2 {Γ : cr_G} {K : cr_K} {τ : Nat → Nat} {I : cr_I} {x1 : Int32} {x2 : Int32} (hτ : cr_tau τ)  (h : cr_Ok yX9_judge cX9_judge 3 (some .int) (cr_rm0 4 99) K 247 247 Γ) (hyp : ((I 200 34) ≤ x2 → (p_yX9_burnt τ I ∧ K (some (.int (f_yX9_burnt τ I))) I (cr_rf τ))) ∧ (¬ (I 200 34) ≤ x2 → ((0 ≤ x2.toInt ∧ x2.toInt < 5) ∧ (0 ≤ x2.toInt ∧ x2.toInt < 5) ∧ (∀ J1 : cr_I, J1 = cr_up I 243 x2.toNatClampNeg ((I 223 x2.toNatClampNeg) + ((x1 >>> (((3 : Int32) * x2) &&& 31)) &&& (7 : Int32))) → ((0 ≤ x2.toInt ∧ x2.toInt < 5) ∧ (0 ≤ x2.toInt ∧ x2.toInt < 5) ∧ ((J1 243 x2.toNatClampNeg) ≤ (J1 224 x2.toNatClampNeg) → (∀ v1 : Int32, v1 = x2 + (1 : Int32) → cr_V Γ 2 [.ref 200, .int x1, .int v1] [] J1 (cr_rf τ) 247)) ∧ (¬ (J1 243 x2.toNatClampNeg) ≤ (J1 224 x2.toNatClampNeg) → K (some (.int (-3 : Int32))) J1 (cr_rf τ))))))) : cr_V Γ 2 [.ref 200, .int x1, .int x2] [] I (cr_rf τ) 247 := by
  refine cr_iload_n h (j := 2) rfl rfl dX9_judge_2 ?_
  refine cr_aload_n h (j := 0) rfl rfl dX9_judge_3 ?_
  refine cr_getI h (k := 34) cr_clsX9 (by decide) rfl rfl wf_X9_340 (by decide) rfl dX9_judge_4 ?_
  refine cr_icmp_ge h (tgt := 55) (by decide) dX9_judge_7 (fun c1 => ?_) (fun c1 => ?_)
  · have hyp := hyp.1 c1
    refine cr_aload_n h (j := 0) rfl rfl dX9_judge_55 ?_
    refine cr_callV h (c0 := 9) (T0 := TX9) C_yX9_burnt cZ_yX9_burnt wm_X9_350 wv_yX9_burnt we_yX9_burnt (by decide) rfl rfl (cr_rmS (by decide) (by decide)) (As := []) rfl (Nat.le_of_ble_eq_true rfl) dX9_judge_56 ⟨τ, rfl, hτ, rfl, hyp.1, ?_⟩
    have hyp := hyp.2
    show cr_V Γ 59 [.ref 200, .int x1, .int x2] [.int (f_yX9_burnt τ I)] I (cr_rf τ) 247
    refine cr_iret h rfl rfl rfl dX9_judge_59 ?_
    exact hyp
  · have hyp := hyp.2 c1
    refine cr_aload_n h (j := 0) rfl rfl dX9_judge_10 ?_
    refine cr_getR h (k := 61) cr_clsX9 (by decide) rfl rfl wf_X9_140 (by decide) rfl rfl dX9_judge_11 ?_
    refine cr_iload_n h (j := 2) rfl rfl dX9_judge_14 ?_
    refine cr_aload_n h (j := 0) rfl rfl dX9_judge_15 ?_
    refine cr_getR h (k := 31) cr_clsX9 (by decide) rfl rfl wf_X9_80 (by decide) rfl rfl dX9_judge_16 ?_
    refine cr_iload_n h (j := 2) rfl rfl dX9_judge_19 ?_
    refine cs_ild h (by decide) rfl hyp.1 (q := x2.toNatClampNeg) rfl dX9_judge_20 ?_
    have hyp := hyp.2
    refine cr_iload_n h (j := 1) rfl rfl dX9_judge_21 ?_
    refine cr_iconst h (v := (3 : Int32)) (by decide) dX9_judge_22 ?_
    refine cr_iload_n h (j := 2) rfl rfl dX9_judge_23 ?_
    refine cr_imul h dX9_judge_24 ?_
    refine cr_ishr h dX9_judge_25 ?_
    refine cr_bipush h (v := (7 : Int32)) (by decide) dX9_judge_26 ?_
    refine cr_iand h dX9_judge_28 ?_
    refine cr_iadd h dX9_judge_29 ?_
    refine cs_ist h (by decide) (by decide) rfl hyp.1 (q := x2.toNatClampNeg) rfl dX9_judge_30 (fun J1 eJ1 => ?_)
    have hyp := hyp.2 J1 eJ1
    refine cr_aload_n h (j := 0) rfl rfl dX9_judge_31 ?_
    refine cr_getR h (k := 61) cr_clsX9 (by decide) rfl rfl wf_X9_140 (by decide) rfl rfl dX9_judge_32 ?_
    refine cr_iload_n h (j := 2) rfl rfl dX9_judge_35 ?_
    refine cs_ild h (by decide) rfl hyp.1 (q := x2.toNatClampNeg) rfl dX9_judge_36 ?_
    have hyp := hyp.2
    refine cr_aload_n h (j := 0) rfl rfl dX9_judge_37 ?_
    refine cr_getR h (k := 32) cr_clsX9 (by decide) rfl rfl wf_X9_83 (by decide) rfl rfl dX9_judge_38 ?_
    refine cr_iload_n h (j := 2) rfl rfl dX9_judge_41 ?_
    refine cs_ild h (by decide) rfl hyp.1 (q := x2.toNatClampNeg) rfl dX9_judge_42 ?_
    have hyp := hyp.2
    refine cr_icmp_le h (tgt := 49) (by decide) dX9_judge_43 (fun c2 => ?_) (fun c2 => ?_)
    · have hyp := hyp.1 c2
      refine cs_inc h (v := (1 : Int32)) 2 rfl (by decide) (by decide) rfl dX9_judge_49 (fun v1 ev1 => ?_)
      have hyp := hyp v1 ev1
      show cr_V Γ 52 [.ref 200, .int x1, .int v1] [] J1 (cr_rf τ) 247
      refine cr_goto h (tgt := 2) (by decide) dX9_judge_52 ?_
      exact cr_weak [true, true, true] hyp
    · have hyp := hyp.2 c2
      refine cr_bipush h (v := (-3 : Int32)) (by decide) dX9_judge_46 ?_
      refine cr_iret h rfl rfl rfl dX9_judge_48 ?_
      exact hyp
abbrev T_yX9_judge : cr_T := fun vs I R K => ∃ (τ : Nat → Nat) (x1 : Int32), R = cr_rf τ ∧ cr_tau τ ∧ vs = [.ref 200, .int x1] ∧ p_yX9_judge τ x1 I ∧ ∀ (r : Int32) J, q_yX9_judge τ x1 I r J → K (some (.int r)) J (cr_rf τ)
abbrev S_yX9_judge : Prop := cr_C yX9_judge cX9_judge 3 (some .int) (cr_rm0 4 99) 247 247 T_yX9_judge
theorem G_yX9_judge (H : ∀ (Γ : cr_G) (K : cr_K) (τ : Nat → Nat) (x1 : Int32) (I : cr_I), cr_tau τ → cr_Ok yX9_judge cX9_judge 3 (some .int) (cr_rm0 4 99) K 247 247 Γ → p_yX9_judge τ x1 I → (∀ (r : Int32) J, q_yX9_judge τ x1 I r J → K (some (.int r)) J (cr_rf τ)) → cr_V Γ 0 [.ref 200, .int x1, .null] [] I (cr_rf τ) 247) : cr_C yX9_judge cX9_judge 3 (some .int) (cr_rm0 4 99) 247 247 T_yX9_judge := by
  refine cr_C.of (by decide +kernel) (fun vs I R K hT => ?_) (fun Γ K h vs I R hT => ?_)
  · obtain ⟨τ, x1, rfl, hτ, rfl, hp, hK⟩ := hT
    exact Nat.le_of_ble_eq_true rfl
  · obtain ⟨τ, x1, rfl, hτ, rfl, hp, hK⟩ := hT
    exact H Γ K τ x1 I hτ h hp hK
theorem C_yX9_judge : S_yX9_judge := G_yX9_judge (by
  intro Γ K τ x1 I hτ h hp hK
  have hok2 := hp
  obtain ⟨⟨hn, hn5, hjw⟩, hwt⟩ := hp
  obtain ⟨eN, hN⟩ := cr_ofI (B := 5) hn.1 hn.2
  have eN' : I 200 34 = nI (cr_mjn I) := eN
  have hN' : cr_mjn I ≤ 5 := hN
  refine bk_yX9_judge_0 hτ h ?_
  refine cr_loop (fun k => ∀ J, cr_fr 243 243 I J → (∀ i, i < k → J 243 i = cr_jgS x1 (I 223) i ∧ cr_jgS x1 (I 223) i ≤ I 224 i) → cr_V Γ 2 [.ref 200, .int x1, .int (nI k)] [] J (cr_rf τ) 247) (cr_mjn I) ?_ ?_ 0 (Nat.zero_le _) I cr_fr.rf (fun i hi => absurd hi (Nat.not_lt_zero _))
  · intro J hf e
    obtain ⟨j0, j1, j2, j3⟩ := cr_mjf (hf.wd (lo' := 243) (hi' := 244) (by omega) (by omega))
    refine bk_yX9_judge_2 hτ h ⟨fun _ => ⟨j2 hok2, ?_⟩, fun c => absurd ?_ c⟩
    · refine hK _ J ⟨hf, Or.inl ⟨fun i hi => (e i hi).2, ?_⟩⟩
      rw [j3 τ]
      exact cr_costS_c (fun i hi => (e i hi).1) _ (Nat.le_refl _)
    · rw [hf 200 34 (by omega), eN']; exact Int32.le_refl _
  · intro k hk ih J hf e
    have hxk : (0 : Int) ≤ (nI k).toInt ∧ (nI k).toInt < 5 := cr_ix (by omega) (by omega)
    refine bk_yX9_judge_2 hτ h ⟨fun c => absurd c ?_, fun _ => ⟨hxk, hxk, ?_⟩⟩
    · rw [hf 200 34 (by omega), eN']; exact cr_nle hk (by omega)
    · rw [cr_nc (by omega), hf 223 k (by omega)]
      intro J1 e1
      have hf1 : cr_fr 243 243 I J1 := by rw [e1]; exact hf.up (by omega) (by omega)
      have e243 : J1 243 k = cr_jgS x1 (I 223) k := by rw [e1, cr_up_s]; rfl
      rw [e243, hf1 224 k (by omega)]
      refine ⟨hxk, hxk, fun c => ?_, fun c => ?_⟩
      · rintro v rfl
        rw [nI_1]
        refine ih _ hf1 (fun i hi => ?_)
        by_cases q : i = k
        · rw [q]; exact ⟨e243, c⟩
        · rw [e1, cr_up_k q]; exact e i (by omega)
      · exact hK _ J1 ⟨hf1, Or.inr ⟨⟨k, hk, c⟩, rfl⟩⟩)
def p_yX9_best (τ : Nat → Nat) (x1 : Int32) (I : cr_I) : Prop := cr_mjok I ∧ cr_hw (cr_mjn I) (I 223) (I 224) ∧ (0 ≤ (I 214 3).toInt ∧ (I 214 3).toInt ≤ 9) ∧ (0 ≤ (I 214 4).toInt ∧ (I 214 4).toInt ≤ 9)
def q_yX9_best (τ : Nat → Nat) (x1 : Int32) (I : cr_I) (r : Int32) (J : cr_I) : Prop := cr_fr 243 244 I J ∧ r = (if x1.toInt < -1 then -3 else if (I 200 34).toInt ≤ x1.toInt then -1 else if x1 = -1 then (cr_mjbs I).1 else (cr_mjbs I).2 x1.toNatClampNeg)
theorem bk_yX9_best_0 {Γ : cr_G} {K : cr_K} {τ : Nat → Nat} {I : cr_I} {x1 : Int32} (hτ : cr_tau τ)  (h : cr_Ok yX9_best cX9_best 6 (some .int) (cr_rm0 4 99) K 247 247 Γ) (hyp : ((-1 : Int32) ≤ x1 → ((x1 < (I 200 34) → cr_V Γ 20 [.ref 200, .int x1, .int (0 : Int32), .null, .null, .null] [] I (cr_rf τ) 247) ∧ (¬ x1 < (I 200 34) → K (some (.int (-1 : Int32))) I (cr_rf τ)))) ∧ (¬ (-1 : Int32) ≤ x1 → K (some (.int (-3 : Int32))) I (cr_rf τ))) : cr_V Γ 0 [.ref 200, .int x1, .null, .null, .null, .null] [] I (cr_rf τ) 247 := by
  refine cr_iload_n h (j := 1) rfl rfl dX9_best_0 ?_
  refine cr_iconst h (v := (-1 : Int32)) (by decide) dX9_best_1 ?_
  refine cr_icmp_ge h (tgt := 8) (by decide) dX9_best_2 (fun c1 => ?_) (fun c1 => ?_)
  · have hyp := hyp.1 c1
    refine cr_iload_n h (j := 1) rfl rfl dX9_best_8 ?_
    refine cr_aload_n h (j := 0) rfl rfl dX9_best_9 ?_
    refine cr_getI h (k := 34) cr_clsX9 (by decide) rfl rfl wf_X9_340 (by decide) rfl dX9_best_10 ?_
    refine cr_icmp_lt h (tgt := 18) (by decide) dX9_best_13 (fun c2 => ?_) (fun c2 => ?_)
    · have hyp := hyp.1 c2
      refine cr_iconst h (v := (0 : Int32)) (by decide) dX9_best_18 ?_
      refine cr_istore_n h (j := 2) rfl (by decide) rfl dX9_best_19 ?_
      show cr_V Γ 20 [.ref 200, .int x1, .int (0 : Int32), .null, .null, .null] [] I (cr_rf τ) 247
      exact cr_weak [true, true, true, false, false, false] hyp
    · have hyp := hyp.2 c2
      refine cr_iconst h (v := (-1 : Int32)) (by decide) dX9_best_16 ?_
      refine cr_iret h rfl rfl rfl dX9_best_17 ?_
      exact hyp
  · have hyp := hyp.2 c1
    refine cr_bipush h (v := (-3 : Int32)) (by decide) dX9_best_5 ?_
    refine cr_iret h rfl rfl rfl dX9_best_7 ?_
    exact hyp
theorem bk_yX9_best_20 {Γ : cr_G} {K : cr_K} {τ : Nat → Nat} {I : cr_I} {x1 : Int32} {x2 : Int32} (hτ : cr_tau τ)  (h : cr_Ok yX9_best cX9_best 6 (some .int) (cr_rm0 4 99) K 247 247 Γ) (hyp : ((I 200 34) ≤ x2 → cr_V Γ 52 [.ref 200, .int x1, .int (268435456 : Int32), .int (1 : Int32), .null, .null] [] I (cr_rf τ) 247) ∧ (¬ (I 200 34) ≤ x2 → ((0 ≤ x2.toInt ∧ x2.toInt < 5) ∧ (0 ≤ x2.toInt ∧ x2.toInt < 5) ∧ (∀ J1 : cr_I, J1 = cr_up I 243 x2.toNatClampNeg (I 223 x2.toNatClampNeg) → (∀ v1 : Int32, v1 = x2 + (1 : Int32) → cr_V Γ 20 [.ref 200, .int x1, .int v1, .null, .null, .null] [] J1 (cr_rf τ) 247))))) : cr_V Γ 20 [.ref 200, .int x1, .int x2, .null, .null, .null] [] I (cr_rf τ) 247 := by
  refine cr_iload_n h (j := 2) rfl rfl dX9_best_20 ?_
  refine cr_aload_n h (j := 0) rfl rfl dX9_best_21 ?_
  refine cr_getI h (k := 34) cr_clsX9 (by decide) rfl rfl wf_X9_340 (by decide) rfl dX9_best_22 ?_
  refine cr_icmp_ge h (tgt := 46) (by decide) dX9_best_25 (fun c3 => ?_) (fun c3 => ?_)
  · have hyp := hyp.1 c3
    refine cr_ldcw h wc_X9_322 dX9_best_46 ?_
    refine cr_istore_n h (j := 2) rfl (by decide) rfl dX9_best_49 ?_
    show cr_V Γ 50 [.ref 200, .int x1, .int (268435456 : Int32), .null, .null, .null] [] I (cr_rf τ) 247
    refine cr_iconst h (v := (1 : Int32)) (by decide) dX9_best_50 ?_
    refine cr_istore_n h (j := 3) rfl (by decide) rfl dX9_best_51 ?_
    show cr_V Γ 52 [.ref 200, .int x1, .int (268435456 : Int32), .int (1 : Int32), .null, .null] [] I (cr_rf τ) 247
    exact cr_weak [true, true, true, true, false, false] hyp
  · have hyp := hyp.2 c3
    refine cr_aload_n h (j := 0) rfl rfl dX9_best_28 ?_
    refine cr_getR h (k := 61) cr_clsX9 (by decide) rfl rfl wf_X9_140 (by decide) rfl rfl dX9_best_29 ?_
    refine cr_iload_n h (j := 2) rfl rfl dX9_best_32 ?_
    refine cr_aload_n h (j := 0) rfl rfl dX9_best_33 ?_
    refine cr_getR h (k := 31) cr_clsX9 (by decide) rfl rfl wf_X9_80 (by decide) rfl rfl dX9_best_34 ?_
    refine cr_iload_n h (j := 2) rfl rfl dX9_best_37 ?_
    refine cs_ild h (by decide) rfl hyp.1 (q := x2.toNatClampNeg) rfl dX9_best_38 ?_
    have hyp := hyp.2
    refine cs_ist h (by decide) (by decide) rfl hyp.1 (q := x2.toNatClampNeg) rfl dX9_best_39 (fun J1 eJ1 => ?_)
    have hyp := hyp.2 J1 eJ1
    refine cs_inc h (v := (1 : Int32)) 2 rfl (by decide) (by decide) rfl dX9_best_40 (fun v1 ev1 => ?_)
    have hyp := hyp v1 ev1
    show cr_V Γ 43 [.ref 200, .int x1, .int v1, .null, .null, .null] [] J1 (cr_rf τ) 247
    refine cr_goto h (tgt := 20) (by decide) dX9_best_43 ?_
    exact cr_weak [true, true, true, false, false, false] hyp
theorem bk_yX9_best_52 {Γ : cr_G} {K : cr_K} {τ : Nat → Nat} {I : cr_I} {x1 : Int32} {x2 : Int32} {x3 : Int32} (hτ : cr_tau τ)  (h : cr_Ok yX9_best cX9_best 6 (some .int) (cr_rm0 4 99) K 247 247 Γ) (hyp : (x3 = 0 → ((¬ x1 = (-1 : Int32) → ((0 ≤ x1.toInt ∧ x1.toInt < 5) ∧ K (some (.int (I 244 x1.toNatClampNeg))) I (cr_rf τ))) ∧ (x1 = (-1 : Int32) → K (some (.int x2)) I (cr_rf τ)))) ∧ (¬ x3 = 0 → (p_yX9_burnt τ I ∧ (∀ v2 : Int32, v2 = (f_yX9_burnt τ I) → ((x2 ≤ v2 → (∀ v3 : Int32, v3 = ((I 200 34) - (1 : Int32)) → cr_V Γ 111 [.ref 200, .int x1, .int x2, .null, .null, .int v3] [] I (cr_rf τ) 247)) ∧ (¬ x2 ≤ v2 → cr_V Γ 74 [.ref 200, .int x1, .int v2, .null, .null, .int (0 : Int32)] [] I (cr_rf τ) 247)))))) : cr_V Γ 52 [.ref 200, .int x1, .int x2, .int x3, .null, .null] [] I (cr_rf τ) 247 := by
  refine cr_iload_n h (j := 3) rfl rfl dX9_best_52 ?_
  refine cr_if_eq h (tgt := 194) (by decide) dX9_best_53 (fun c4 => ?_) (fun c4 => ?_)
  · have hyp := hyp.1 c4
    refine cr_iload_n h (j := 1) rfl rfl dX9_best_194 ?_
    refine cr_iconst h (v := (-1 : Int32)) (by decide) dX9_best_195 ?_
    refine cr_icmp_ne h (tgt := 203) (by decide) dX9_best_196 (fun c5 => ?_) (fun c5 => ?_)
    · have hyp := hyp.1 c5
      refine cr_aload_n h (j := 0) rfl rfl dX9_best_203 ?_
      refine cr_getR h (k := 62) cr_clsX9 (by decide) rfl rfl wf_X9_143 (by decide) rfl rfl dX9_best_204 ?_
      refine cr_iload_n h (j := 1) rfl rfl dX9_best_207 ?_
      refine cs_ild h (by decide) rfl hyp.1 (q := x1.toNatClampNeg) rfl dX9_best_208 ?_
      have hyp := hyp.2
      refine cr_iret h rfl rfl rfl dX9_best_209 ?_
      exact hyp
    · have hyp := hyp.2 c5
      refine cr_iload_n h (j := 2) rfl rfl dX9_best_199 ?_
      refine cr_goto h (tgt := 209) (by decide) dX9_best_200 ?_
      refine cr_iret h rfl rfl rfl dX9_best_209 ?_
      exact hyp
  · have hyp := hyp.2 c4
    refine cr_aload_n h (j := 0) rfl rfl dX9_best_56 ?_
    refine cr_callV h (c0 := 9) (T0 := TX9) C_yX9_burnt cZ_yX9_burnt wm_X9_350 wv_yX9_burnt we_yX9_burnt (by decide) rfl rfl (cr_rmS (by decide) (by decide)) (As := []) rfl (Nat.le_of_ble_eq_true rfl) dX9_best_57 ⟨τ, rfl, hτ, rfl, hyp.1, ?_⟩
    have hyp := hyp.2
    show cr_V Γ 60 [.ref 200, .int x1, .int x2, .int x3, .null, .null] [.int (f_yX9_burnt τ I)] I (cr_rf τ) 247
    refine cs_i h 4 (by decide) rfl dX9_best_60 (fun v2 ev2 => ?_)
    have hyp := hyp v2 ev2
    show cr_V Γ 62 [.ref 200, .int x1, .int x2, .int x3, .int v2, .null] [] I (cr_rf τ) 247
    refine cr_iload h rfl dX9_best_62 ?_
    refine cr_iload_n h (j := 2) rfl rfl dX9_best_64 ?_
    refine cr_icmp_ge h (tgt := 103) (by decide) dX9_best_65 (fun c6 => ?_) (fun c6 => ?_)
    · have hyp := hyp.1 c6
      refine cr_aload_n h (j := 0) rfl rfl dX9_best_103 ?_
      refine cr_getI h (k := 34) cr_clsX9 (by decide) rfl rfl wf_X9_340 (by decide) rfl dX9_best_104 ?_
      refine cr_iconst h (v := (1 : Int32)) (by decide) dX9_best_107 ?_
      refine cr_isub h dX9_best_108 ?_
      refine cs_i h 5 (by decide) rfl dX9_best_109 (fun v3 ev3 => ?_)
      have hyp := hyp v3 ev3
      show cr_V Γ 111 [.ref 200, .int x1, .int x2, .int x3, .int v2, .int v3] [] I (cr_rf τ) 247
      exact cr_weak [true, true, true, false, false, true] hyp
    · have hyp := hyp.2 c6
      refine cr_iload h rfl dX9_best_68 ?_
      refine cr_istore_n h (j := 2) rfl (by decide) rfl dX9_best_70 ?_
      show cr_V Γ 71 [.ref 200, .int x1, .int v2, .int x3, .int v2, .null] [] I (cr_rf τ) 247
      refine cr_iconst h (v := (0 : Int32)) (by decide) dX9_best_71 ?_
      refine cr_istore h (by decide) rfl dX9_best_72 ?_
      show cr_V Γ 74 [.ref 200, .int x1, .int v2, .int x3, .int v2, .int (0 : Int32)] [] I (cr_rf τ) 247
      exact cr_weak [true, true, true, false, false, true] hyp
theorem bk_yX9_best_111 {Γ : cr_G} {K : cr_K} {τ : Nat → Nat} {I : cr_I} {x1 : Int32} {x2 : Int32} {x5 : Int32} (hτ : cr_tau τ)  (h : cr_Ok yX9_best cX9_best 6 (some .int) (cr_rm0 4 99) K 247 247 Γ) (hyp : (x5 < 0 → (∀ v4 : Int32, v4 = (if x5 < 0 then (0 : Int32) else (1 : Int32)) → ((0 ≤ (if v4 = 0 then (0 : Int32) else x5).toInt ∧ (if v4 = 0 then (0 : Int32) else x5).toInt < 5) ∧ (0 ≤ (if v4 = 0 then (0 : Int32) else x5).toInt ∧ (if v4 = 0 then (0 : Int32) else x5).toInt < 5) ∧ (∀ J2 : cr_I, J2 = cr_up I 243 ((if v4 = 0 then (0 : Int32) else x5).toNatClampNeg) ((I 243 (if v4 = 0 then (0 : Int32) else x5).toNatClampNeg) + (if v4 = 0 then (0 : Int32) else (1 : Int32))) → cr_V Γ 52 [.ref 200, .int x1, .int x2, .int v4, .null, .null] [] J2 (cr_rf τ) 247)))) ∧ (¬ x5 < 0 → ((0 ≤ x5.toInt ∧ x5.toInt < 5) ∧ (0 ≤ x5.toInt ∧ x5.toInt < 5) ∧ (¬ (I 243 x5.toNatClampNeg) = (I 224 x5.toNatClampNeg) → (∀ v5 : Int32, v5 = (if x5 < 0 then (0 : Int32) else (1 : Int32)) → ((0 ≤ (if v5 = 0 then (0 : Int32) else x5).toInt ∧ (if v5 = 0 then (0 : Int32) else x5).toInt < 5) ∧ (0 ≤ (if v5 = 0 then (0 : Int32) else x5).toInt ∧ (if v5 = 0 then (0 : Int32) else x5).toInt < 5) ∧ (∀ J6 : cr_I, J6 = cr_up I 243 ((if v5 = 0 then (0 : Int32) else x5).toNatClampNeg) ((I 243 (if v5 = 0 then (0 : Int32) else x5).toNatClampNeg) + (if v5 = 0 then (0 : Int32) else (1 : Int32))) → cr_V Γ 52 [.ref 200, .int x1, .int x2, .int v5, .null, .null] [] J6 (cr_rf τ) 247)))) ∧ ((I 243 x5.toNatClampNeg) = (I 224 x5.toNatClampNeg) → ((0 ≤ x5.toInt ∧ x5.toInt < 5) ∧ (0 ≤ x5.toInt ∧ x5.toInt < 5) ∧ (∀ J10 : cr_I, J10 = cr_up I 243 x5.toNatClampNeg (I 223 x5.toNatClampNeg) → (∀ v6 : Int32, v6 = x5 + (-1 : Int32) → cr_V Γ 111 [.ref 200, .int x1, .int x2, .null, .null, .int v6] [] J10 (cr_rf τ) 247))))))) : cr_V Γ 111 [.ref 200, .int x1, .int x2, .null, .null, .int x5] [] I (cr_rf τ) 247 := by
  refine cr_iload h rfl dX9_best_111 ?_
  refine cr_if_lt h (tgt := 153) (by decide) dX9_best_113 (fun c7 => ?_) (fun c7 => ?_)
  · have hyp := hyp.1 c7
    refine cr_iload h rfl dX9_best_153 ?_
    have J5 : cr_V Γ 163 [.ref 200, .int x1, .int x2, .null, .null, .int x5] [.int (if x5 < 0 then (0 : Int32) else (1 : Int32))] I (cr_rf τ) 247 := by
      refine cs_i_n h 3 rfl (by decide) rfl dX9_best_163 (fun v4 ev4 => ?_)
      have hyp := hyp v4 ev4
      show cr_V Γ 164 [.ref 200, .int x1, .int x2, .int v4, .null, .int x5] [] I (cr_rf τ) 247
      refine cr_aload_n h (j := 0) rfl rfl dX9_best_164 ?_
      refine cr_getR h (k := 61) cr_clsX9 (by decide) rfl rfl wf_X9_140 (by decide) rfl rfl dX9_best_165 ?_
      refine cr_iload_n h (j := 3) rfl rfl dX9_best_168 ?_
      have J4 : cr_V Γ 178 [.ref 200, .int x1, .int x2, .int v4, .null, .int x5] [.int (if v4 = 0 then (0 : Int32) else x5), .ref 243] I (cr_rf τ) 247 := by
        refine cr_dup2 h rfl rfl dX9_best_178 ?_
        refine cs_ild h (by decide) rfl hyp.1 (q := (if v4 = 0 then (0 : Int32) else x5).toNatClampNeg) rfl dX9_best_179 ?_
        have hyp := hyp.2
        refine cr_iload_n h (j := 3) rfl rfl dX9_best_180 ?_
        have J3 : cr_V Γ 189 [.ref 200, .int x1, .int x2, .int v4, .null, .int x5] [.int (if v4 = 0 then (0 : Int32) else (1 : Int32)), .int (I 243 (if v4 = 0 then (0 : Int32) else x5).toNatClampNeg), .int (if v4 = 0 then (0 : Int32) else x5), .ref 243] I (cr_rf τ) 247 := by
          refine cr_iadd h dX9_best_189 ?_
          refine cs_ist h (by decide) (by decide) rfl hyp.1 (q := (if v4 = 0 then (0 : Int32) else x5).toNatClampNeg) rfl dX9_best_190 (fun J2 eJ2 => ?_)
          have hyp := hyp.2 J2 eJ2
          refine cr_goto h (tgt := 52) (by decide) dX9_best_191 ?_
          exact cr_weak [true, true, true, true, false, false] hyp
        refine cr_if_eq h (tgt := 188) (by decide) dX9_best_181 (fun c10 => ?_) (fun c10 => ?_)
        · refine cr_iconst h (v := (0 : Int32)) (by decide) dX9_best_188 ?_
          exact cr_ite (by rw [if_pos c10]) J3
        · refine cr_iconst h (v := (1 : Int32)) (by decide) dX9_best_184 ?_
          refine cr_goto h (tgt := 189) (by decide) dX9_best_185 ?_
          exact cr_ite (by rw [if_neg c10]) J3
      refine cr_if_eq h (tgt := 177) (by decide) dX9_best_169 (fun c9 => ?_) (fun c9 => ?_)
      · refine cr_iconst h (v := (0 : Int32)) (by decide) dX9_best_177 ?_
        exact cr_ite (by rw [if_pos c9]) J4
      · refine cr_iload h rfl dX9_best_172 ?_
        refine cr_goto h (tgt := 178) (by decide) dX9_best_174 ?_
        exact cr_ite (by rw [if_neg c9]) J4
    refine cr_if_lt h (tgt := 162) (by decide) dX9_best_155 (fun c8 => ?_) (fun c8 => ?_)
    · refine cr_iconst h (v := (0 : Int32)) (by decide) dX9_best_162 ?_
      exact cr_ite (by rw [if_pos c8]) J5
    · refine cr_iconst h (v := (1 : Int32)) (by decide) dX9_best_158 ?_
      refine cr_goto h (tgt := 163) (by decide) dX9_best_159 ?_
      exact cr_ite (by rw [if_neg c8]) J5
  · have hyp := hyp.2 c7
    refine cr_aload_n h (j := 0) rfl rfl dX9_best_116 ?_
    refine cr_getR h (k := 61) cr_clsX9 (by decide) rfl rfl wf_X9_140 (by decide) rfl rfl dX9_best_117 ?_
    refine cr_iload h rfl dX9_best_120 ?_
    refine cs_ild h (by decide) rfl hyp.1 (q := x5.toNatClampNeg) rfl dX9_best_122 ?_
    have hyp := hyp.2
    refine cr_aload_n h (j := 0) rfl rfl dX9_best_123 ?_
    refine cr_getR h (k := 32) cr_clsX9 (by decide) rfl rfl wf_X9_83 (by decide) rfl rfl dX9_best_124 ?_
    refine cr_iload h rfl dX9_best_127 ?_
    refine cs_ild h (by decide) rfl hyp.1 (q := x5.toNatClampNeg) rfl dX9_best_129 ?_
    have hyp := hyp.2
    refine cr_icmp_ne h (tgt := 153) (by decide) dX9_best_130 (fun c11 => ?_) (fun c11 => ?_)
    · have hyp := hyp.1 c11
      refine cr_iload h rfl dX9_best_153 ?_
      have J9 : cr_V Γ 163 [.ref 200, .int x1, .int x2, .null, .null, .int x5] [.int (if x5 < 0 then (0 : Int32) else (1 : Int32))] I (cr_rf τ) 247 := by
        refine cs_i_n h 3 rfl (by decide) rfl dX9_best_163 (fun v5 ev5 => ?_)
        have hyp := hyp v5 ev5
        show cr_V Γ 164 [.ref 200, .int x1, .int x2, .int v5, .null, .int x5] [] I (cr_rf τ) 247
        refine cr_aload_n h (j := 0) rfl rfl dX9_best_164 ?_
        refine cr_getR h (k := 61) cr_clsX9 (by decide) rfl rfl wf_X9_140 (by decide) rfl rfl dX9_best_165 ?_
        refine cr_iload_n h (j := 3) rfl rfl dX9_best_168 ?_
        have J8 : cr_V Γ 178 [.ref 200, .int x1, .int x2, .int v5, .null, .int x5] [.int (if v5 = 0 then (0 : Int32) else x5), .ref 243] I (cr_rf τ) 247 := by
          refine cr_dup2 h rfl rfl dX9_best_178 ?_
          refine cs_ild h (by decide) rfl hyp.1 (q := (if v5 = 0 then (0 : Int32) else x5).toNatClampNeg) rfl dX9_best_179 ?_
          have hyp := hyp.2
          refine cr_iload_n h (j := 3) rfl rfl dX9_best_180 ?_
          have J7 : cr_V Γ 189 [.ref 200, .int x1, .int x2, .int v5, .null, .int x5] [.int (if v5 = 0 then (0 : Int32) else (1 : Int32)), .int (I 243 (if v5 = 0 then (0 : Int32) else x5).toNatClampNeg), .int (if v5 = 0 then (0 : Int32) else x5), .ref 243] I (cr_rf τ) 247 := by
            refine cr_iadd h dX9_best_189 ?_
            refine cs_ist h (by decide) (by decide) rfl hyp.1 (q := (if v5 = 0 then (0 : Int32) else x5).toNatClampNeg) rfl dX9_best_190 (fun J6 eJ6 => ?_)
            have hyp := hyp.2 J6 eJ6
            refine cr_goto h (tgt := 52) (by decide) dX9_best_191 ?_
            exact cr_weak [true, true, true, true, false, false] hyp
          refine cr_if_eq h (tgt := 188) (by decide) dX9_best_181 (fun c14 => ?_) (fun c14 => ?_)
          · refine cr_iconst h (v := (0 : Int32)) (by decide) dX9_best_188 ?_
            exact cr_ite (by rw [if_pos c14]) J7
          · refine cr_iconst h (v := (1 : Int32)) (by decide) dX9_best_184 ?_
            refine cr_goto h (tgt := 189) (by decide) dX9_best_185 ?_
            exact cr_ite (by rw [if_neg c14]) J7
        refine cr_if_eq h (tgt := 177) (by decide) dX9_best_169 (fun c13 => ?_) (fun c13 => ?_)
        · refine cr_iconst h (v := (0 : Int32)) (by decide) dX9_best_177 ?_
          exact cr_ite (by rw [if_pos c13]) J8
        · refine cr_iload h rfl dX9_best_172 ?_
          refine cr_goto h (tgt := 178) (by decide) dX9_best_174 ?_
          exact cr_ite (by rw [if_neg c13]) J8
      refine cr_if_lt h (tgt := 162) (by decide) dX9_best_155 (fun c12 => ?_) (fun c12 => ?_)
      · refine cr_iconst h (v := (0 : Int32)) (by decide) dX9_best_162 ?_
        exact cr_ite (by rw [if_pos c12]) J9
      · refine cr_iconst h (v := (1 : Int32)) (by decide) dX9_best_158 ?_
        refine cr_goto h (tgt := 163) (by decide) dX9_best_159 ?_
        exact cr_ite (by rw [if_neg c12]) J9
    · have hyp := hyp.2 c11
      refine cr_aload_n h (j := 0) rfl rfl dX9_best_133 ?_
      refine cr_getR h (k := 61) cr_clsX9 (by decide) rfl rfl wf_X9_140 (by decide) rfl rfl dX9_best_134 ?_
      refine cr_iload h rfl dX9_best_137 ?_
      refine cr_aload_n h (j := 0) rfl rfl dX9_best_139 ?_
      refine cr_getR h (k := 31) cr_clsX9 (by decide) rfl rfl wf_X9_80 (by decide) rfl rfl dX9_best_140 ?_
      refine cr_iload h rfl dX9_best_143 ?_
      refine cs_ild h (by decide) rfl hyp.1 (q := x5.toNatClampNeg) rfl dX9_best_145 ?_
      have hyp := hyp.2
      refine cs_ist h (by decide) (by decide) rfl hyp.1 (q := x5.toNatClampNeg) rfl dX9_best_146 (fun J10 eJ10 => ?_)
      have hyp := hyp.2 J10 eJ10
      refine cs_inc h (v := (-1 : Int32)) 5 rfl (by decide) (by decide) rfl dX9_best_147 (fun v6 ev6 => ?_)
      have hyp := hyp v6 ev6
      show cr_V Γ 150 [.ref 200, .int x1, .int x2, .null, .null, .int v6] [] J10 (cr_rf τ) 247
      refine cr_goto h (tgt := 111) (by decide) dX9_best_150 ?_
      exact cr_weak [true, true, true, false, false, true] hyp
theorem bk_yX9_best_74 {Γ : cr_G} {K : cr_K} {τ : Nat → Nat} {I : cr_I} {x1 : Int32} {x2 : Int32} {x5 : Int32} (hτ : cr_tau τ)  (h : cr_Ok yX9_best cX9_best 6 (some .int) (cr_rm0 4 99) K 247 247 Γ) (hyp : ((I 200 34) ≤ x5 → (∀ v7 : Int32, v7 = ((I 200 34) - (1 : Int32)) → cr_V Γ 111 [.ref 200, .int x1, .int x2, .null, .null, .int v7] [] I (cr_rf τ) 247)) ∧ (¬ (I 200 34) ≤ x5 → ((0 ≤ x5.toInt ∧ x5.toInt < 5) ∧ (0 ≤ x5.toInt ∧ x5.toInt < 5) ∧ (∀ J11 : cr_I, J11 = cr_up I 244 x5.toNatClampNeg (I 243 x5.toNatClampNeg) → (∀ v8 : Int32, v8 = x5 + (1 : Int32) → cr_V Γ 74 [.ref 200, .int x1, .int x2, .null, .null, .int v8] [] J11 (cr_rf τ) 247))))) : cr_V Γ 74 [.ref 200, .int x1, .int x2, .null, .null, .int x5] [] I (cr_rf τ) 247 := by
  refine cr_iload h rfl dX9_best_74 ?_
  refine cr_aload_n h (j := 0) rfl rfl dX9_best_76 ?_
  refine cr_getI h (k := 34) cr_clsX9 (by decide) rfl rfl wf_X9_340 (by decide) rfl dX9_best_77 ?_
  refine cr_icmp_ge h (tgt := 103) (by decide) dX9_best_80 (fun c15 => ?_) (fun c15 => ?_)
  · have hyp := hyp.1 c15
    refine cr_aload_n h (j := 0) rfl rfl dX9_best_103 ?_
    refine cr_getI h (k := 34) cr_clsX9 (by decide) rfl rfl wf_X9_340 (by decide) rfl dX9_best_104 ?_
    refine cr_iconst h (v := (1 : Int32)) (by decide) dX9_best_107 ?_
    refine cr_isub h dX9_best_108 ?_
    refine cs_i h 5 (by decide) rfl dX9_best_109 (fun v7 ev7 => ?_)
    have hyp := hyp v7 ev7
    show cr_V Γ 111 [.ref 200, .int x1, .int x2, .null, .null, .int v7] [] I (cr_rf τ) 247
    exact cr_weak [true, true, true, false, false, true] hyp
  · have hyp := hyp.2 c15
    refine cr_aload_n h (j := 0) rfl rfl dX9_best_83 ?_
    refine cr_getR h (k := 62) cr_clsX9 (by decide) rfl rfl wf_X9_143 (by decide) rfl rfl dX9_best_84 ?_
    refine cr_iload h rfl dX9_best_87 ?_
    refine cr_aload_n h (j := 0) rfl rfl dX9_best_89 ?_
    refine cr_getR h (k := 61) cr_clsX9 (by decide) rfl rfl wf_X9_140 (by decide) rfl rfl dX9_best_90 ?_
    refine cr_iload h rfl dX9_best_93 ?_
    refine cs_ild h (by decide) rfl hyp.1 (q := x5.toNatClampNeg) rfl dX9_best_95 ?_
    have hyp := hyp.2
    refine cs_ist h (by decide) (by decide) rfl hyp.1 (q := x5.toNatClampNeg) rfl dX9_best_96 (fun J11 eJ11 => ?_)
    have hyp := hyp.2 J11 eJ11
    refine cs_inc h (v := (1 : Int32)) 5 rfl (by decide) (by decide) rfl dX9_best_97 (fun v8 ev8 => ?_)
    have hyp := hyp v8 ev8
    show cr_V Γ 100 [.ref 200, .int x1, .int x2, .null, .null, .int v8] [] J11 (cr_rf τ) 247
    refine cr_goto h (tgt := 74) (by decide) dX9_best_100 ?_
    exact cr_weak [true, true, true, false, false, true] hyp
abbrev T_yX9_best : cr_T := fun vs I R K => ∃ (τ : Nat → Nat) (x1 : Int32), R = cr_rf τ ∧ cr_tau τ ∧ vs = [.ref 200, .int x1] ∧ p_yX9_best τ x1 I ∧ ∀ (r : Int32) J, q_yX9_best τ x1 I r J → K (some (.int r)) J (cr_rf τ)
abbrev S_yX9_best : Prop := cr_C yX9_best cX9_best 6 (some .int) (cr_rm0 4 99) 247 247 T_yX9_best
theorem G_yX9_best (H : ∀ (Γ : cr_G) (K : cr_K) (τ : Nat → Nat) (x1 : Int32) (I : cr_I), cr_tau τ → cr_Ok yX9_best cX9_best 6 (some .int) (cr_rm0 4 99) K 247 247 Γ → p_yX9_best τ x1 I → (∀ (r : Int32) J, q_yX9_best τ x1 I r J → K (some (.int r)) J (cr_rf τ)) → cr_V Γ 0 [.ref 200, .int x1, .null, .null, .null, .null] [] I (cr_rf τ) 247) : cr_C yX9_best cX9_best 6 (some .int) (cr_rm0 4 99) 247 247 T_yX9_best := by
  refine cr_C.of (by decide +kernel) (fun vs I R K hT => ?_) (fun Γ K h vs I R hT => ?_)
  · obtain ⟨τ, x1, rfl, hτ, rfl, hp, hK⟩ := hT
    exact Nat.le_of_ble_eq_true rfl
  · obtain ⟨τ, x1, rfl, hτ, rfl, hp, hK⟩ := hT
    exact H Γ K τ x1 I hτ h hp hK
theorem C_yX9_best : S_yX9_best := G_yX9_best (by
  intro Γ K τ x1 I hτ h hp hK
  obtain ⟨hok, hw, hsp, hlt⟩ := hp
  have hok2 := hok
  obtain ⟨⟨hn, hn5, hjw⟩, hwt⟩ := hok
  obtain ⟨eN, hN⟩ := cr_ofI (B := 5) hn.1 hn.2
  have eN' : I 200 34 = nI (cr_mjn I) := eN
  have hN' : cr_mjn I ≤ 5 := hN
  have eni : (cr_mjn I : Int) = (I 200 34).toInt := by
    show (((I 200 34).toInt.toNat : Nat) : Int) = _
    omega
  obtain ⟨hC0, hC1⟩ := cr_chN_le hN' hw
  have h00 : ∀ i, i < cr_mjn I → cr_mjh0 I i = I 223 i := fun i hi => if_pos hi
  have hsqok := fun k => cr_sq_ok hw h00 k
  have hsqb := fun {k} => cr_sq_b hw h00 (k := k)
  have hsq1 : ∀ k, cr_sq (I 223) (I 224) (cr_mjn I) (cr_mjh0 I) (k + 1) = (cr_tnS (I 223) (I 224) (cr_mjn I) (cr_sq (I 223) (I 224) (cr_mjn I) (cr_mjh0 I) k)).1 := fun k => rfl
  have hbs : cr_mjbs I = cr_bsS (cr_mjcF I) (cr_sq (I 223) (I 224) (cr_mjn I) (cr_mjh0 I)) (cr_chN (I 223) (I 224) (cr_mjn I) - 1) := rfl
  have hs0 : cr_sq (I 223) (I 224) (cr_mjn I) (cr_mjh0 I) 0 = cr_mjh0 I := rfl
  generalize cr_sq (I 223) (I 224) (cr_mjn I) (cr_mjh0 I) = sq at hsqok hsqb hsq1 hbs hs0
  generalize cr_chN (I 223) (I 224) (cr_mjn I) = Cn at hC0 hC1 hsqok hsqb hbs
  have m1 : (-1 : Int32).toInt = -1 := rfl
  refine bk_yX9_best_0 hτ h ⟨fun c => ⟨fun c2 => ?_, fun c2 => ?_⟩, fun c => ?_⟩
  rotate_left
  · rw [cr_le] at c
    rw [cr_lt] at c2
    refine hK _ I ⟨cr_fr.rf, ?_⟩
    rw [if_neg (by omega), if_pos (by omega)]
  · rw [cr_le] at c
    refine hK _ I ⟨cr_fr.rf, ?_⟩
    rw [if_pos (by omega)]
  rw [cr_le] at c
  rw [cr_lt] at c2
  have hfin : ∀ J, cr_fr 243 244 I J → (∀ i, i < cr_mjn I → J 244 i = (cr_mjbs I).2 i) → cr_V Γ 52 [.ref 200, .int x1, .int (cr_mjbs I).1, .int (0 : Int32), .null, .null] [] J (cr_rf τ) 247 := by
    intro J hf e
    refine bk_yX9_best_52 hτ h ⟨fun _ => ⟨fun d => ⟨?_, ?_⟩, fun d => ?_⟩, fun d => absurd rfl d⟩
    · have : x1.toInt ≠ -1 := fun q => d (cr_eq.mpr q)
      omega
    · refine hK _ J ⟨hf, ?_⟩
      have q : x1.toInt ≠ -1 := fun q => d (cr_eq.mpr q)
      rw [if_neg (by omega), if_neg (by omega), if_neg d]
      exact e _ (by show x1.toInt.toNat < _; omega)
    · refine hK _ J ⟨hf, ?_⟩
      rw [if_neg (by omega), if_neg (by omega), if_pos d]
  -- the turn
  have turn : ∀ (m : Nat) (J : cr_I) (lv : Int32), m ≤ cr_mjn I → cr_fr 243 244 I J → cr_hr m (I 223) (I 224) (J 243) → (∀ L, cr_fr 243 244 I L → (∀ i, L 244 i = J 244 i) → L 243 = (cr_tnS (I 223) (I 224) m (J 243)).1 → cr_V Γ 52 [.ref 200, .int x1, .int lv, .int (if (cr_tnS (I 223) (I 224) m (J 243)).2 = true then 1 else 0), .null, .null] [] L (cr_rf τ) 247) → cr_V Γ 111 [.ref 200, .int x1, .int lv, .null, .null, .int (nI m - 1)] [] J (cr_rf τ) 247 := by
    intro m
    induction m with
    | zero =>
      intro J lv _ hf hr hk
      refine bk_yX9_best_111 hτ h ⟨fun d => ?_, fun d => absurd (by decide) d⟩
      rw [if_pos d]
      rintro v4 rfl
      simp only [if_true]
      refine ⟨by decide, by decide, ?_⟩
      rintro J2 rfl
      refine hk _ (hf.up (by omega) (by omega)) (fun i => cr_up_b (by omega)) ?_
      rw [cr_tnS, cr_up_row]
      funext i
      by_cases q : i = (0 : Int32).toNatClampNeg
      · rw [if_pos q, Int32.add_zero, q]
      · rw [if_neg q]
    | succ m ih =>
      intro J lv hm hf hr hk
      have hxm : (0 : Int) ≤ (nI m).toInt ∧ (nI m).toInt < 5 := cr_ix (by omega) (by omega)
      rw [nI_pred]
      have hp0 : ¬ nI m < 0 := nI_pos (by omega)
      have hrm := hr m (by omega)
      refine bk_yX9_best_111 hτ h ⟨fun d => absurd d hp0, fun _ => ⟨hxm, hxm, fun d => ?_, fun d => ⟨hxm, hxm, ?_⟩⟩⟩
      · rw [cr_nc (by omega), hf 224 m (by omega)] at d
        have hc : ¬ (I 224 m).toInt ≤ (J 243 m).toInt := fun q => d (cr_eq.mpr (by omega))
        rw [if_neg hp0]
        rintro v5 rfl
        rw [if_neg (by decide), if_neg (by decide)]
        refine ⟨hxm, hxm, ?_⟩
        rw [cr_nc (by omega)]
        rintro J6 rfl
        have hk := hk (cr_up J 243 m (J 243 m + 1)) (hf.up (by omega) (by omega)) (fun i => cr_up_b (by omega))
        rw [cr_tnS, if_neg hc] at hk
        exact hk cr_up_row
      · rw [cr_nc (by omega), hf 224 m (by omega)] at d
        have hc : (I 224 m).toInt ≤ (J 243 m).toInt := by rw [d]; exact Int.le_refl _
        rw [cr_nc (by omega), hf 223 m (by omega)]
        rintro J10 rfl v rfl
        rw [show nI m + (-1 : Int32) = nI m - 1 from (Int32.sub_eq_add_neg _ _).symm]
        refine ih _ lv (by omega) (hf.up (by omega) (by omega)) (fun j hj => ?_) (fun L hL e4 e3 => ?_)
        · rw [cr_up_k (by omega)]; exact hr j (by omega)
        · rw [cr_up_row] at e3 ⊢
          have hk := hk L hL (fun i => by rw [e4, cr_up_b (by omega)])
          rw [cr_tnS, if_pos hc] at hk
          exact hk e3
  -- one choice
  have body : ∀ k, k < Cn → (∀ J, k + 1 < Cn → cr_fr 243 244 I J → J 243 = sq (k + 1) → (∀ i, i < cr_mjn I → J 244 i = (cr_bsS (cr_mjcF I) sq k).2 i) → cr_V Γ 52 [.ref 200, .int x1, .int (cr_bsS (cr_mjcF I) sq k).1, .int (1 : Int32), .null, .null] [] J (cr_rf τ) 247) → ∀ J, cr_fr 243 244 I J → J 243 = sq k → (∀ i, i < cr_mjn I → J 244 i = (cr_bsS (cr_mjcF I) sq k).2 i) → cr_V Γ 111 [.ref 200, .int x1, .int (cr_bsS (cr_mjcF I) sq k).1, .null, .null, .int (I 200 34 - 1)] [] J (cr_rf τ) 247 := by
    intro k hk hnx J hf e1 e2
    rw [eN']
    refine turn (cr_mjn I) J _ (Nat.le_refl _) hf (by rw [e1]; exact (hsqok k hk).1) (fun L hL e4 e3 => ?_)
    rw [e1, ← hsq1] at e3
    rw [e1]
    by_cases q : k + 1 < Cn
    · rw [if_pos ((hsqb hk).mpr q)]
      exact hnx L q hL e3 (fun i hi => by rw [e4]; exact e2 i hi)
    · rw [if_neg (fun z => q ((hsqb hk).mp z))]
      have hk1 : k = Cn - 1 := by omega
      have := hfin L hL (fun i hi => by rw [e4, e2 i hi, hbs, hk1])
      rw [hbs, ← hk1] at this
      exact this
  have copy : ∀ (J : cr_I) (lv : Int32), cr_fr 243 244 I J → (∀ L, cr_fr 243 244 I L → L 243 = J 243 → (∀ i, i < cr_mjn I → L 244 i = J 243 i) → cr_V Γ 111 [.ref 200, .int x1, .int lv, .null, .null, .int (I 200 34 - 1)] [] L (cr_rf τ) 247) → cr_V Γ 74 [.ref 200, .int x1, .int lv, .null, .null, .int (0 : Int32)] [] J (cr_rf τ) 247 := by
    intro J lv hf hk
    refine cr_loop (fun m => ∀ L, cr_fr 243 244 I L → L 243 = J 243 → (∀ i, i < m → L 244 i = J 243 i) → cr_V Γ 74 [.ref 200, .int x1, .int lv, .null, .null, .int (nI m)] [] L (cr_rf τ) 247) (cr_mjn I) ?_ ?_ 0 (Nat.zero_le _) J hf rfl (fun i hi => absurd hi (Nat.not_lt_zero _))
    · intro L hL e1 e2
      refine bk_yX9_best_74 hτ h ⟨fun _ => ?_, fun d => absurd ?_ d⟩
      · rw [hL 200 34 (by omega)]
        rintro v rfl
        exact hk L hL e1 e2
      · rw [hL 200 34 (by omega), eN']; exact Int32.le_refl _
    · intro m hm ih L hL e1 e2
      have hxm : (0 : Int) ≤ (nI m).toInt ∧ (nI m).toInt < 5 := cr_ix (by omega) (by omega)
      refine bk_yX9_best_74 hτ h ⟨fun d => absurd d ?_, fun _ => ⟨hxm, hxm, ?_⟩⟩
      · rw [hL 200 34 (by omega), eN']; exact cr_nle hm (by omega)
      · rw [cr_nc (by omega)]
        rintro J11 rfl v rfl
        rw [nI_1]
        refine ih _ (hL.up (by omega) (by omega)) ?_ (fun i hi => ?_)
        · funext i
          rw [cr_up_b (by omega), e1]
        · by_cases q : i = m
          · rw [q, cr_up_s, e1]
          · rw [cr_up_k q]; exact e2 i (by omega)
  have loop : ∀ k, k < Cn → ∀ J, cr_fr 243 244 I J → J 243 = sq (k + 1) → k + 1 < Cn → (∀ i, i < cr_mjn I → J 244 i = (cr_bsS (cr_mjcF I) sq k).2 i) → cr_V Γ 52 [.ref 200, .int x1, .int (cr_bsS (cr_mjcF I) sq k).1, .int (1 : Int32), .null, .null] [] J (cr_rf τ) 247 := by
    have key : ∀ d k, k + d + 1 = Cn → ∀ J, cr_fr 243 244 I J → J 243 = sq (k + 1) → k + 1 < Cn → (∀ i, i < cr_mjn I → J 244 i = (cr_bsS (cr_mjcF I) sq k).2 i) → cr_V Γ 52 [.ref 200, .int x1, .int (cr_bsS (cr_mjcF I) sq k).1, .int (1 : Int32), .null, .null] [] J (cr_rf τ) 247 := by
      intro d
      induction d with
      | zero => intro k hk J _ _ q; omega
      | succ d ihd =>
        intro k hk J hf e1 hlt e2
        obtain ⟨j0, j1, j2, j3⟩ := cr_mjf hf
        refine bk_yX9_best_52 hτ h ⟨fun z => absurd z (by decide), fun _ => ⟨j2 hok2, ?_⟩⟩
        rw [j3 τ, e1]
        rintro v2 rfl
        refine ⟨fun z => ?_, fun z => ?_⟩
        · rw [hf 200 34 (by omega)]
          rintro v rfl
          have hb : cr_bsS (cr_mjcF I) sq (k + 1) = cr_bsS (cr_mjcF I) sq k := by rw [cr_bsS, if_neg (Int32.not_lt.mpr z)]
          rw [← hb] at e2 ⊢
          exact body (k + 1) hlt (fun J a b c d2 => ihd (k + 1) (by omega) J b c a d2) J hf e1 e2
        · have hb : cr_bsS (cr_mjcF I) sq (k + 1) = (cr_mjcF I (sq (k + 1)), sq (k + 1)) := by rw [cr_bsS, if_pos (Int32.not_le.mp z)]
          refine copy J _ hf (fun L hL f1 f2 => ?_)
          have := body (k + 1) hlt (fun J a b c d2 => ihd (k + 1) (by omega) J b c a d2) L hL (f1.trans e1) (fun i hi => by rw [f2 i hi, e1, hb])
          rw [hb] at this
          exact this
    intro k hk
    exact key (Cn - k - 1) k (by omega)
  -- the first hours
  refine cr_loop (fun k => ∀ J, cr_fr 243 243 I J → (∀ i, J 243 i = if i < k then I 223 i else I 243 i) → cr_V Γ 20 [.ref 200, .int x1, .int (nI k), .null, .null, .null] [] J (cr_rf τ) 247) (cr_mjn I) ?_ ?_ 0 (Nat.zero_le _) I cr_fr.rf (fun i => by simp)
  · intro J hf e
    have hf' := hf.wd (lo' := 243) (hi' := 244) (by omega) (by omega)
    obtain ⟨j0, j1, j2, j3⟩ := cr_mjf hf'
    have e243 : J 243 = sq 0 := by
      funext i
      rw [e i, hs0]
      rfl
    have hcost := cr_costS_b (sp := I 214 3) (lt := I 214 4) (mw := cr_mjmw I) (mk := I 225) ⟨hn5, hjw⟩ hw (hsqok 0 hC0).1 (fun j hj => hwt _ (cr_cn (N := 4) (hjw j hj).2)) hsp hlt (cr_mjn I) (Nat.le_refl _)
    refine bk_yX9_best_20 hτ h ⟨fun _ => ?_, fun d => absurd ?_ d⟩
    · refine bk_yX9_best_52 hτ h ⟨fun z => absurd z (by decide), fun _ => ⟨j2 hok2, ?_⟩⟩
      rw [j3 τ, e243]
      rintro v2 rfl
      have far : (268435456 : Int32).toInt = 268435456 := rfl
      refine ⟨fun z => absurd z ?_, fun z => ?_⟩
      · rw [cr_le]
        unfold cr_mjcF
        omega
      · refine copy J _ hf' (fun L hL f1 f2 => ?_)
        have := body 0 hC0 (fun J a b c d2 => loop 0 hC0 J b c a d2) L hL (f1.trans e243) (fun i hi => by rw [f2 i hi, e243]; rfl)
        exact this
    · rw [hf 200 34 (by omega), eN']; exact Int32.le_refl _
  · intro k hk ih J hf e
    have hxk : (0 : Int) ≤ (nI k).toInt ∧ (nI k).toInt < 5 := cr_ix (by omega) (by omega)
    refine bk_yX9_best_20 hτ h ⟨fun d => absurd d ?_, fun _ => ⟨hxk, hxk, ?_⟩⟩
    · rw [hf 200 34 (by omega), eN']; exact cr_nle hk (by omega)
    · rw [cr_nc (by omega), hf 223 k (by omega)]
      rintro J1 rfl v rfl
      rw [nI_1]
      refine ih _ (hf.up (by omega) (by omega)) (fun i => ?_)
      by_cases q : i = k
      · rw [q, cr_up_s, if_pos (by omega)]
      · rw [cr_up_k q, e i]
        by_cases q2 : i < k
        · rw [if_pos q2, if_pos (by omega)]
        · rw [if_neg q2, if_neg (by omega)])
