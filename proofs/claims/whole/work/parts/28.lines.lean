/-! tests, lines, the whole text: the class -/
def cr_fl (t l k : Nat) (I M : cr_I) : Prop := ∀ b j, ¬ (b = t + 4 + l ∧ j = k) → ¬ (b = t + 11 + l ∧ j = k) → ¬ (b = t + 18 + l ∧ j = k) → M b j = I b j
def p_yX7_parseTest (τ : Nat → Nat) (x1 x2 : Int32) (I : cr_I) : Prop := cr_tkok I ∧ (0 ≤ x1.toInt ∧ x1.toInt < 6) ∧ (0 ≤ x2.toInt ∧ x2.toInt < 4)
def q_yX7_parseTest (τ : Nat → Nat) (x1 x2 : Int32) (I : cr_I) (r : Int32) (J : cr_I) : Prop := r = (if (cr_tsS (I 2) (cr_tL I) (cr_tt I)).1 = true then 1 else 0) ∧ ∃ M, J = cr_tx M (cr_tsS (I 2) (cr_tL I) (cr_tt I)).2.1 ∧ cr_fl (τ 4) x1.toNatClampNeg x2.toNatClampNeg I M ∧ ((cr_tsS (I 2) (cr_tL I) (cr_tt I)).1 = true → M (τ 4 + 4 + x1.toNatClampNeg) x2.toNatClampNeg = (cr_tsS (I 2) (cr_tL I) (cr_tt I)).2.2.1 ∧ M (τ 4 + 18 + x1.toNatClampNeg) x2.toNatClampNeg = (cr_tsS (I 2) (cr_tL I) (cr_tt I)).2.2.2.1 ∧ M (τ 4 + 11 + x1.toNatClampNeg) x2.toNatClampNeg = (cr_tsS (I 2) (cr_tL I) (cr_tt I)).2.2.2.2)
theorem bk_yX7_parseTest_0 {Γ : cr_G} {K : cr_K} {τ : Nat → Nat} {I : cr_I} {x1 : Int32} {x2 : Int32} (hτ : cr_tau τ)  (h : cr_Ok yX7_parseTest cX7_parseTest 5 (some .boolean) (cr_rm0 6 127) K 247 247 Γ) (hyp : p_yX7_readingNamed τ I ∧ (∀ v1 : Int32, v1 = (f_yX7_readingNamed τ I) → ((¬ v1 = (-1 : Int32) → ((0 ≤ x1.toInt ∧ x1.toInt < 6) ∧ (0 ≤ x2.toInt ∧ x2.toInt < 4) ∧ (∀ J1 : cr_I, J1 = cr_up I ((τ 4) + 3 + 1 + x1.toNatClampNeg) x2.toNatClampNeg v1 → (p_yX7_advance τ J1 ∧ (∀ (J2 : cr_I), q_yX7_advance τ J1 J2 → (p_yX7_isWord τ 10 J2 ∧ (∀ v2 : Int32, v2 = (f_yX7_isWord τ 10 J2) → ((¬ v2 = 0 → ((0 ≤ x1.toInt ∧ x1.toInt < 6) ∧ (0 ≤ x2.toInt ∧ x2.toInt < 4) ∧ (∀ J3 : cr_I, J3 = cr_up J2 ((τ 4) + 17 + 1 + x1.toNatClampNeg) x2.toNatClampNeg (if v2 = 0 then (0 : Int32) else (1 : Int32)) → (p_yX7_advance τ J3 ∧ (∀ (J4 : cr_I), q_yX7_advance τ J3 J4 → (p_yX7_isNumber τ J4 ∧ (¬ (f_yX7_isNumber τ J4) = 0 → ((0 ≤ x1.toInt ∧ x1.toInt < 6) ∧ p_yX7_number τ J4 ∧ (0 ≤ x2.toInt ∧ x2.toInt < 4) ∧ (∀ J5 : cr_I, J5 = cr_up J4 ((τ 4) + 10 + 1 + x1.toNatClampNeg) x2.toNatClampNeg (f_yX7_number τ J4) → (p_yX7_advance τ J5 ∧ (∀ (J6 : cr_I), q_yX7_advance τ J5 J6 → K (some (.int (1 : Int32))) J6 (cr_rf τ)))))) ∧ ((f_yX7_isNumber τ J4) = 0 → K (some (.int (0 : Int32))) J4 (cr_rf τ)))))))) ∧ (v2 = 0 → (p_yX7_isWord τ 11 J2 ∧ (¬ (f_yX7_isWord τ 11 J2) = 0 → ((0 ≤ x1.toInt ∧ x1.toInt < 6) ∧ (0 ≤ x2.toInt ∧ x2.toInt < 4) ∧ (∀ J8 : cr_I, J8 = cr_up J2 ((τ 4) + 17 + 1 + x1.toNatClampNeg) x2.toNatClampNeg (if v2 = 0 then (0 : Int32) else (1 : Int32)) → (p_yX7_advance τ J8 ∧ (∀ (J9 : cr_I), q_yX7_advance τ J8 J9 → (p_yX7_isNumber τ J9 ∧ (¬ (f_yX7_isNumber τ J9) = 0 → ((0 ≤ x1.toInt ∧ x1.toInt < 6) ∧ p_yX7_number τ J9 ∧ (0 ≤ x2.toInt ∧ x2.toInt < 4) ∧ (∀ J10 : cr_I, J10 = cr_up J9 ((τ 4) + 10 + 1 + x1.toNatClampNeg) x2.toNatClampNeg (f_yX7_number τ J9) → (p_yX7_advance τ J10 ∧ (∀ (J11 : cr_I), q_yX7_advance τ J10 J11 → K (some (.int (1 : Int32))) J11 (cr_rf τ)))))) ∧ ((f_yX7_isNumber τ J9) = 0 → K (some (.int (0 : Int32))) J9 (cr_rf τ)))))))) ∧ ((f_yX7_isWord τ 11 J2) = 0 → K (some (.int (0 : Int32))) J2 (cr_rf τ)))))))))))) ∧ (v1 = (-1 : Int32) → K (some (.int (0 : Int32))) I (cr_rf τ))))) : cr_V Γ 0 [.ref 1, .int x1, .int x2, .null, .null] [] I (cr_rf τ) 247 := by
  refine cr_aload_n h (j := 0) rfl rfl dX7_parseTest_0 ?_
  refine cr_callV h (c0 := 7) (T0 := TX7) C_yX7_readingNamed cZ_yX7_readingNamed wm_X7_83 wv_yX7_readingNamed we_yX7_readingNamed (by decide) rfl rfl (cr_rmS (by decide) (by decide)) (As := []) rfl (Nat.le_of_ble_eq_true rfl) dX7_parseTest_1 ⟨τ, rfl, hτ, rfl, hyp.1, ?_⟩
  have hyp := hyp.2
  show cr_V Γ 4 [.ref 1, .int x1, .int x2, .null, .null] [.int (f_yX7_readingNamed τ I)] I (cr_rf τ) 247
  refine cs_i_n h 3 rfl (by decide) rfl dX7_parseTest_4 (fun v1 ev1 => ?_)
  have hyp := hyp v1 ev1
  show cr_V Γ 5 [.ref 1, .int x1, .int x2, .int v1, .null] [] I (cr_rf τ) 247
  refine cr_iload_n h (j := 3) rfl rfl dX7_parseTest_5 ?_
  refine cr_iconst h (v := (-1 : Int32)) (by decide) dX7_parseTest_6 ?_
  refine cr_icmp_ne h (tgt := 12) (by decide) dX7_parseTest_7 (fun c1 => ?_) (fun c1 => ?_)
  · have hyp := hyp.1 c1
    refine cr_aload_n h (j := 0) rfl rfl dX7_parseTest_12 ?_
    refine cr_getR h (k := 2) cr_clsX7 (by decide) rfl rfl wf_X7_22 (by decide) rfl rfl dX7_parseTest_13 ?_
    refine cr_getR h (k := 3) cr_clsX6 (by decide) rfl rfl wf_X7_86 (by have := (kt_t (hτ.1 4 (by decide))).1; omega) (kt_t (hτ.1 4 (by decide))).2.1 ((kt_t (hτ.1 4 (by decide))).2.2.2.2.2.2.2 τ).2.2.1 dX7_parseTest_16 ?_
    refine cr_iload_n h (j := 1) rfl rfl dX7_parseTest_19 ?_
    have hb1 := hyp.1
    have hyp := hyp.2
    refine cr_aald h (by have := (kt_t (hτ.1 4 (by decide))).1; omega) (kt_t (hτ.1 4 (by decide))).2.2.2.2.1 hb1 ((kt_r (hτ.1 4 (by decide)) (Or.inl rfl) hb1).2.2 τ) dX7_parseTest_20 ?_
    refine cr_iload_n h (j := 2) rfl rfl dX7_parseTest_21 ?_
    refine cr_iload_n h (j := 3) rfl rfl dX7_parseTest_22 ?_
    refine cs_ist h (kt_r (hτ.1 4 (by decide)) (Or.inl rfl) hb1).1 (by decide) (kt_r (hτ.1 4 (by decide)) (Or.inl rfl) hb1).2.1 hyp.1 (q := x2.toNatClampNeg) rfl dX7_parseTest_23 (fun J1 eJ1 => ?_)
    have hyp := hyp.2 J1 eJ1
    refine cr_aload_n h (j := 0) rfl rfl dX7_parseTest_24 ?_
    refine cr_callV h (c0 := 7) (T0 := TX7) C_yX7_advance cZ_yX7_advance wm_X7_32 wv_yX7_advance we_yX7_advance (by decide) rfl rfl (cr_rmS (by decide) (by decide)) (As := []) rfl (Nat.le_of_ble_eq_true rfl) dX7_parseTest_25 ⟨τ, rfl, hτ, rfl, hyp.1, fun J2 q1 => ?_⟩
    have hyp := hyp.2 J2 q1
    show cr_V Γ 28 [.ref 1, .int x1, .int x2, .int v1, .null] [] J2 (cr_rf τ) 247
    refine cr_aload_n h (j := 0) rfl rfl dX7_parseTest_28 ?_
    refine cr_ldcS90 h rfl dX7_parseTest_29 ?_
    refine cr_callV h (c0 := 7) (T0 := TX7) C_yX7_isWord cZ_yX7_isWord wm_X7_57 wv_yX7_isWord we_yX7_isWord (by decide) rfl rfl (cr_rmS (by decide) (by decide)) (As := [.ref 1013]) rfl (Nat.le_of_ble_eq_true rfl) dX7_parseTest_31 ⟨τ, 10, rfl, hτ, rfl, (by decide), hyp.1, ?_⟩
    have hyp := hyp.2
    show cr_V Γ 34 [.ref 1, .int x1, .int x2, .int v1, .null] [.int (f_yX7_isWord τ 10 J2)] J2 (cr_rf τ) 247
    refine cs_i h 4 (by decide) rfl dX7_parseTest_34 (fun v2 ev2 => ?_)
    have hyp := hyp v2 ev2
    show cr_V Γ 36 [.ref 1, .int x1, .int x2, .int v1, .int v2] [] J2 (cr_rf τ) 247
    refine cr_iload h rfl dX7_parseTest_36 ?_
    refine cr_if_ne h (tgt := 52) (by decide) dX7_parseTest_38 (fun c2 => ?_) (fun c2 => ?_)
    · have hyp := hyp.1 c2
      refine cr_aload_n h (j := 0) rfl rfl dX7_parseTest_52 ?_
      refine cr_getR h (k := 2) cr_clsX7 (by decide) rfl rfl wf_X7_22 (by decide) rfl rfl dX7_parseTest_53 ?_
      refine cr_getR h (k := 5) cr_clsX6 (by decide) rfl rfl wf_X7_94 (by have := (kt_t (hτ.1 4 (by decide))).1; omega) (kt_t (hτ.1 4 (by decide))).2.1 ((kt_t (hτ.1 4 (by decide))).2.2.2.2.2.2.2 τ).2.2.2.2 dX7_parseTest_56 ?_
      refine cr_iload_n h (j := 1) rfl rfl dX7_parseTest_59 ?_
      have hb2 := hyp.1
      have hyp := hyp.2
      refine cr_aald h (by have := (kt_t (hτ.1 4 (by decide))).1; omega) (kt_t (hτ.1 4 (by decide))).2.2.2.2.2.2.1 hb2 ((kt_r (hτ.1 4 (by decide)) (Or.inr (Or.inr rfl)) hb2).2.2 τ) dX7_parseTest_60 ?_
      refine cr_iload_n h (j := 2) rfl rfl dX7_parseTest_61 ?_
      refine cr_iload h rfl dX7_parseTest_62 ?_
      have J7 : cr_V Γ 72 [.ref 1, .int x1, .int x2, .int v1, .int v2] [.int (if v2 = 0 then (0 : Int32) else (1 : Int32)), .int x2, .ref ((τ 4) + 17 + 1 + x1.toNatClampNeg)] J2 (cr_rf τ) 247 := by
        refine cs_ist h (kt_r (hτ.1 4 (by decide)) (Or.inr (Or.inr rfl)) hb2).1 (by decide) (kt_r (hτ.1 4 (by decide)) (Or.inr (Or.inr rfl)) hb2).2.1 hyp.1 (q := x2.toNatClampNeg) rfl dX7_parseTest_72 (fun J3 eJ3 => ?_)
        have hyp := hyp.2 J3 eJ3
        refine cr_aload_n h (j := 0) rfl rfl dX7_parseTest_73 ?_
        refine cr_callV h (c0 := 7) (T0 := TX7) C_yX7_advance cZ_yX7_advance wm_X7_32 wv_yX7_advance we_yX7_advance (by decide) rfl rfl (cr_rmS (by decide) (by decide)) (As := []) rfl (Nat.le_of_ble_eq_true rfl) dX7_parseTest_74 ⟨τ, rfl, hτ, rfl, hyp.1, fun J4 q2 => ?_⟩
        have hyp := hyp.2 J4 q2
        show cr_V Γ 77 [.ref 1, .int x1, .int x2, .int v1, .int v2] [] J4 (cr_rf τ) 247
        refine cr_aload_n h (j := 0) rfl rfl dX7_parseTest_77 ?_
        refine cr_callV h (c0 := 7) (T0 := TX7) C_yX7_isNumber cZ_yX7_isNumber wm_X7_76 wv_yX7_isNumber we_yX7_isNumber (by decide) rfl rfl (cr_rmS (by decide) (by decide)) (As := []) rfl (Nat.le_of_ble_eq_true rfl) dX7_parseTest_78 ⟨τ, rfl, hτ, rfl, hyp.1, ?_⟩
        have hyp := hyp.2
        show cr_V Γ 81 [.ref 1, .int x1, .int x2, .int v1, .int v2] [.int (f_yX7_isNumber τ J4)] J4 (cr_rf τ) 247
        refine cr_if_ne h (tgt := 86) (by decide) dX7_parseTest_81 (fun c4 => ?_) (fun c4 => ?_)
        · have hyp := hyp.1 c4
          refine cr_aload_n h (j := 0) rfl rfl dX7_parseTest_86 ?_
          refine cr_getR h (k := 2) cr_clsX7 (by decide) rfl rfl wf_X7_22 (by decide) rfl rfl dX7_parseTest_87 ?_
          refine cr_getR h (k := 4) cr_clsX6 (by decide) rfl rfl wf_X7_96 (by have := (kt_t (hτ.1 4 (by decide))).1; omega) (kt_t (hτ.1 4 (by decide))).2.1 ((kt_t (hτ.1 4 (by decide))).2.2.2.2.2.2.2 τ).2.2.2.1 dX7_parseTest_90 ?_
          refine cr_iload_n h (j := 1) rfl rfl dX7_parseTest_93 ?_
          have hb3 := hyp.1
          have hyp := hyp.2
          refine cr_aald h (by have := (kt_t (hτ.1 4 (by decide))).1; omega) (kt_t (hτ.1 4 (by decide))).2.2.2.2.2.1 hb3 ((kt_r (hτ.1 4 (by decide)) (Or.inr (Or.inl rfl)) hb3).2.2 τ) dX7_parseTest_94 ?_
          refine cr_iload_n h (j := 2) rfl rfl dX7_parseTest_95 ?_
          refine cr_aload_n h (j := 0) rfl rfl dX7_parseTest_96 ?_
          refine cr_callV h (c0 := 7) (T0 := TX7) C_yX7_number cZ_yX7_number wm_X7_79 wv_yX7_number we_yX7_number (by decide) rfl rfl (cr_rmS (by decide) (by decide)) (As := []) rfl (Nat.le_of_ble_eq_true rfl) dX7_parseTest_97 ⟨τ, rfl, hτ, rfl, hyp.1, ?_⟩
          have hyp := hyp.2
          show cr_V Γ 100 [.ref 1, .int x1, .int x2, .int v1, .int v2] [.int (f_yX7_number τ J4), .int x2, .ref ((τ 4) + 10 + 1 + x1.toNatClampNeg)] J4 (cr_rf τ) 247
          refine cs_ist h (kt_r (hτ.1 4 (by decide)) (Or.inr (Or.inl rfl)) hb3).1 (by decide) (kt_r (hτ.1 4 (by decide)) (Or.inr (Or.inl rfl)) hb3).2.1 hyp.1 (q := x2.toNatClampNeg) rfl dX7_parseTest_100 (fun J5 eJ5 => ?_)
          have hyp := hyp.2 J5 eJ5
          refine cr_aload_n h (j := 0) rfl rfl dX7_parseTest_101 ?_
          refine cr_callV h (c0 := 7) (T0 := TX7) C_yX7_advance cZ_yX7_advance wm_X7_32 wv_yX7_advance we_yX7_advance (by decide) rfl rfl (cr_rmS (by decide) (by decide)) (As := []) rfl (Nat.le_of_ble_eq_true rfl) dX7_parseTest_102 ⟨τ, rfl, hτ, rfl, hyp.1, fun J6 q3 => ?_⟩
          have hyp := hyp.2 J6 q3
          show cr_V Γ 105 [.ref 1, .int x1, .int x2, .int v1, .int v2] [] J6 (cr_rf τ) 247
          refine cr_iconst h (v := (1 : Int32)) (by decide) dX7_parseTest_105 ?_
          refine cr_iret h rfl (by decide) rfl dX7_parseTest_106 ?_
          exact hyp
        · have hyp := hyp.2 c4
          refine cr_iconst h (v := (0 : Int32)) (by decide) dX7_parseTest_84 ?_
          refine cr_iret h rfl (by decide) rfl dX7_parseTest_85 ?_
          exact hyp
      refine cr_if_eq h (tgt := 71) (by decide) dX7_parseTest_64 (fun c3 => ?_) (fun c3 => ?_)
      · refine cr_iconst h (v := (0 : Int32)) (by decide) dX7_parseTest_71 ?_
        exact cr_ite (by rw [if_pos c3]) J7
      · refine cr_iconst h (v := (1 : Int32)) (by decide) dX7_parseTest_67 ?_
        refine cr_goto h (tgt := 72) (by decide) dX7_parseTest_68 ?_
        exact cr_ite (by rw [if_neg c3]) J7
    · have hyp := hyp.2 c2
      refine cr_aload_n h (j := 0) rfl rfl dX7_parseTest_41 ?_
      refine cr_ldcS92 h rfl dX7_parseTest_42 ?_
      refine cr_callV h (c0 := 7) (T0 := TX7) C_yX7_isWord cZ_yX7_isWord wm_X7_57 wv_yX7_isWord we_yX7_isWord (by decide) rfl rfl (cr_rmS (by decide) (by decide)) (As := [.ref 1014]) rfl (Nat.le_of_ble_eq_true rfl) dX7_parseTest_44 ⟨τ, 11, rfl, hτ, rfl, (by decide), hyp.1, ?_⟩
      have hyp := hyp.2
      show cr_V Γ 47 [.ref 1, .int x1, .int x2, .int v1, .int v2] [.int (f_yX7_isWord τ 11 J2)] J2 (cr_rf τ) 247
      refine cr_if_ne h (tgt := 52) (by decide) dX7_parseTest_47 (fun c5 => ?_) (fun c5 => ?_)
      · have hyp := hyp.1 c5
        refine cr_aload_n h (j := 0) rfl rfl dX7_parseTest_52 ?_
        refine cr_getR h (k := 2) cr_clsX7 (by decide) rfl rfl wf_X7_22 (by decide) rfl rfl dX7_parseTest_53 ?_
        refine cr_getR h (k := 5) cr_clsX6 (by decide) rfl rfl wf_X7_94 (by have := (kt_t (hτ.1 4 (by decide))).1; omega) (kt_t (hτ.1 4 (by decide))).2.1 ((kt_t (hτ.1 4 (by decide))).2.2.2.2.2.2.2 τ).2.2.2.2 dX7_parseTest_56 ?_
        refine cr_iload_n h (j := 1) rfl rfl dX7_parseTest_59 ?_
        have hb4 := hyp.1
        have hyp := hyp.2
        refine cr_aald h (by have := (kt_t (hτ.1 4 (by decide))).1; omega) (kt_t (hτ.1 4 (by decide))).2.2.2.2.2.2.1 hb4 ((kt_r (hτ.1 4 (by decide)) (Or.inr (Or.inr rfl)) hb4).2.2 τ) dX7_parseTest_60 ?_
        refine cr_iload_n h (j := 2) rfl rfl dX7_parseTest_61 ?_
        refine cr_iload h rfl dX7_parseTest_62 ?_
        have J12 : cr_V Γ 72 [.ref 1, .int x1, .int x2, .int v1, .int v2] [.int (if v2 = 0 then (0 : Int32) else (1 : Int32)), .int x2, .ref ((τ 4) + 17 + 1 + x1.toNatClampNeg)] J2 (cr_rf τ) 247 := by
          refine cs_ist h (kt_r (hτ.1 4 (by decide)) (Or.inr (Or.inr rfl)) hb4).1 (by decide) (kt_r (hτ.1 4 (by decide)) (Or.inr (Or.inr rfl)) hb4).2.1 hyp.1 (q := x2.toNatClampNeg) rfl dX7_parseTest_72 (fun J8 eJ8 => ?_)
          have hyp := hyp.2 J8 eJ8
          refine cr_aload_n h (j := 0) rfl rfl dX7_parseTest_73 ?_
          refine cr_callV h (c0 := 7) (T0 := TX7) C_yX7_advance cZ_yX7_advance wm_X7_32 wv_yX7_advance we_yX7_advance (by decide) rfl rfl (cr_rmS (by decide) (by decide)) (As := []) rfl (Nat.le_of_ble_eq_true rfl) dX7_parseTest_74 ⟨τ, rfl, hτ, rfl, hyp.1, fun J9 q4 => ?_⟩
          have hyp := hyp.2 J9 q4
          show cr_V Γ 77 [.ref 1, .int x1, .int x2, .int v1, .int v2] [] J9 (cr_rf τ) 247
          refine cr_aload_n h (j := 0) rfl rfl dX7_parseTest_77 ?_
          refine cr_callV h (c0 := 7) (T0 := TX7) C_yX7_isNumber cZ_yX7_isNumber wm_X7_76 wv_yX7_isNumber we_yX7_isNumber (by decide) rfl rfl (cr_rmS (by decide) (by decide)) (As := []) rfl (Nat.le_of_ble_eq_true rfl) dX7_parseTest_78 ⟨τ, rfl, hτ, rfl, hyp.1, ?_⟩
          have hyp := hyp.2
          show cr_V Γ 81 [.ref 1, .int x1, .int x2, .int v1, .int v2] [.int (f_yX7_isNumber τ J9)] J9 (cr_rf τ) 247
          refine cr_if_ne h (tgt := 86) (by decide) dX7_parseTest_81 (fun c7 => ?_) (fun c7 => ?_)
          · have hyp := hyp.1 c7
            refine cr_aload_n h (j := 0) rfl rfl dX7_parseTest_86 ?_
            refine cr_getR h (k := 2) cr_clsX7 (by decide) rfl rfl wf_X7_22 (by decide) rfl rfl dX7_parseTest_87 ?_
            refine cr_getR h (k := 4) cr_clsX6 (by decide) rfl rfl wf_X7_96 (by have := (kt_t (hτ.1 4 (by decide))).1; omega) (kt_t (hτ.1 4 (by decide))).2.1 ((kt_t (hτ.1 4 (by decide))).2.2.2.2.2.2.2 τ).2.2.2.1 dX7_parseTest_90 ?_
            refine cr_iload_n h (j := 1) rfl rfl dX7_parseTest_93 ?_
            have hb5 := hyp.1
            have hyp := hyp.2
            refine cr_aald h (by have := (kt_t (hτ.1 4 (by decide))).1; omega) (kt_t (hτ.1 4 (by decide))).2.2.2.2.2.1 hb5 ((kt_r (hτ.1 4 (by decide)) (Or.inr (Or.inl rfl)) hb5).2.2 τ) dX7_parseTest_94 ?_
            refine cr_iload_n h (j := 2) rfl rfl dX7_parseTest_95 ?_
            refine cr_aload_n h (j := 0) rfl rfl dX7_parseTest_96 ?_
            refine cr_callV h (c0 := 7) (T0 := TX7) C_yX7_number cZ_yX7_number wm_X7_79 wv_yX7_number we_yX7_number (by decide) rfl rfl (cr_rmS (by decide) (by decide)) (As := []) rfl (Nat.le_of_ble_eq_true rfl) dX7_parseTest_97 ⟨τ, rfl, hτ, rfl, hyp.1, ?_⟩
            have hyp := hyp.2
            show cr_V Γ 100 [.ref 1, .int x1, .int x2, .int v1, .int v2] [.int (f_yX7_number τ J9), .int x2, .ref ((τ 4) + 10 + 1 + x1.toNatClampNeg)] J9 (cr_rf τ) 247
            refine cs_ist h (kt_r (hτ.1 4 (by decide)) (Or.inr (Or.inl rfl)) hb5).1 (by decide) (kt_r (hτ.1 4 (by decide)) (Or.inr (Or.inl rfl)) hb5).2.1 hyp.1 (q := x2.toNatClampNeg) rfl dX7_parseTest_100 (fun J10 eJ10 => ?_)
            have hyp := hyp.2 J10 eJ10
            refine cr_aload_n h (j := 0) rfl rfl dX7_parseTest_101 ?_
            refine cr_callV h (c0 := 7) (T0 := TX7) C_yX7_advance cZ_yX7_advance wm_X7_32 wv_yX7_advance we_yX7_advance (by decide) rfl rfl (cr_rmS (by decide) (by decide)) (As := []) rfl (Nat.le_of_ble_eq_true rfl) dX7_parseTest_102 ⟨τ, rfl, hτ, rfl, hyp.1, fun J11 q5 => ?_⟩
            have hyp := hyp.2 J11 q5
            show cr_V Γ 105 [.ref 1, .int x1, .int x2, .int v1, .int v2] [] J11 (cr_rf τ) 247
            refine cr_iconst h (v := (1 : Int32)) (by decide) dX7_parseTest_105 ?_
            refine cr_iret h rfl (by decide) rfl dX7_parseTest_106 ?_
            exact hyp
          · have hyp := hyp.2 c7
            refine cr_iconst h (v := (0 : Int32)) (by decide) dX7_parseTest_84 ?_
            refine cr_iret h rfl (by decide) rfl dX7_parseTest_85 ?_
            exact hyp
        refine cr_if_eq h (tgt := 71) (by decide) dX7_parseTest_64 (fun c6 => ?_) (fun c6 => ?_)
        · refine cr_iconst h (v := (0 : Int32)) (by decide) dX7_parseTest_71 ?_
          exact cr_ite (by rw [if_pos c6]) J12
        · refine cr_iconst h (v := (1 : Int32)) (by decide) dX7_parseTest_67 ?_
          refine cr_goto h (tgt := 72) (by decide) dX7_parseTest_68 ?_
          exact cr_ite (by rw [if_neg c6]) J12
      · have hyp := hyp.2 c5
        refine cr_iconst h (v := (0 : Int32)) (by decide) dX7_parseTest_50 ?_
        refine cr_iret h rfl (by decide) rfl dX7_parseTest_51 ?_
        exact hyp
  · have hyp := hyp.2 c1
    refine cr_iconst h (v := (0 : Int32)) (by decide) dX7_parseTest_10 ?_
    refine cr_iret h rfl (by decide) rfl dX7_parseTest_11 ?_
    exact hyp
abbrev T_yX7_parseTest : cr_T := fun vs I R K => ∃ (τ : Nat → Nat) (x1 : Int32) (x2 : Int32), R = cr_rf τ ∧ cr_tau τ ∧ vs = [.ref 1, .int x1, .int x2] ∧ p_yX7_parseTest τ x1 x2 I ∧ ∀ (r : Int32) J, q_yX7_parseTest τ x1 x2 I r J → K (some (.int r)) J (cr_rf τ)
abbrev S_yX7_parseTest : Prop := cr_C yX7_parseTest cX7_parseTest 5 (some .boolean) (cr_rm0 6 127) 247 247 T_yX7_parseTest
theorem G_yX7_parseTest (H : ∀ (Γ : cr_G) (K : cr_K) (τ : Nat → Nat) (x1 : Int32) (x2 : Int32) (I : cr_I), cr_tau τ → cr_Ok yX7_parseTest cX7_parseTest 5 (some .boolean) (cr_rm0 6 127) K 247 247 Γ → p_yX7_parseTest τ x1 x2 I → (∀ (r : Int32) J, q_yX7_parseTest τ x1 x2 I r J → K (some (.int r)) J (cr_rf τ)) → cr_V Γ 0 [.ref 1, .int x1, .int x2, .null, .null] [] I (cr_rf τ) 247) : cr_C yX7_parseTest cX7_parseTest 5 (some .boolean) (cr_rm0 6 127) 247 247 T_yX7_parseTest := by
  refine cr_C.of (by decide +kernel) (fun vs I R K hT => ?_) (fun Γ K h vs I R hT => ?_)
  · obtain ⟨τ, x1, x2, rfl, hτ, rfl, hp, hK⟩ := hT
    exact Nat.le_of_ble_eq_true rfl
  · obtain ⟨τ, x1, x2, rfl, hτ, rfl, hp, hK⟩ := hT
    exact H Γ K τ x1 x2 I hτ h hp hK
theorem cr_fl.up {t l k b : Nat} {I M : cr_I} {v : Int32} (h : cr_fl t l k I M) (hb : b = t + 4 + l ∨ b = t + 11 + l ∨ b = t + 18 + l) : cr_fl t l k I (cr_up M b k v) := by
  intro b' j h1 h2 h3
  by_cases e : b' = b
  · rw [cr_up_k (by omega)]
    exact h b' j h1 h2 h3
  · rw [cr_up_b e]
    exact h b' j h1 h2 h3
theorem C_yX7_parseTest : S_yX7_parseTest := G_yX7_parseTest (by
  intro Γ K τ x1 x2 I hτ h hp hK
  obtain ⟨hok, hx, hy⟩ := hp
  have hat := cr_at.of hok
  have hI := hok.id
  have h4 := cr_T4 hτ
  have hl6 : x1.toNatClampNeg < 6 := by show x1.toInt.toNat < 6; omega
  have e4 : τ 4 + 3 + 1 + x1.toNatClampNeg = τ 4 + 4 + x1.toNatClampNeg := by omega
  have e11 : τ 4 + 10 + 1 + x1.toNatClampNeg = τ 4 + 11 + x1.toNatClampNeg := by omega
  have e18 : τ 4 + 17 + 1 + x1.toNatClampNeg = τ 4 + 18 + x1.toNatClampNeg := by omega
  have hKt : ∀ (k : cr_tk) (r a b : Int32) (M : cr_I), cr_tsS (I 2) (cr_tL I) (cr_tt I) = (true, k, r, a, b) → M = cr_up (cr_up (cr_up I (τ 4 + 4 + x1.toNatClampNeg) x2.toNatClampNeg r) (τ 4 + 18 + x1.toNatClampNeg) x2.toNatClampNeg a) (τ 4 + 11 + x1.toNatClampNeg) x2.toNatClampNeg b → K (some (.int 1)) (cr_tx M k) (cr_rf τ) := fun k r a b M e eM => hK _ _ (by
    unfold q_yX7_parseTest
    rw [e, eM]
    refine ⟨rfl, _, rfl, ?_, fun _ => ⟨?_, ?_, ?_⟩⟩
    · exact (((show cr_fl (τ 4) x1.toNatClampNeg x2.toNatClampNeg I I from fun _ _ _ _ _ => rfl).up (by omega)).up (by omega)).up (by omega)
    · rw [cr_up_b (by omega), cr_up_b (by omega), cr_up_s]
    · rw [cr_up_b (by omega), cr_up_s]
    · rw [cr_up_s])
  have hKf : ∀ (k : cr_tk) (z : Int32 × Int32 × Int32) (M : cr_I), cr_tsS (I 2) (cr_tL I) (cr_tt I) = (false, k, z) → cr_fl (τ 4) x1.toNatClampNeg x2.toNatClampNeg I M → K (some (.int 0)) (cr_tx M k) (cr_rf τ) := fun k z M e eM => hK _ _ (by
    unfold q_yX7_parseTest
    rw [e]
    exact ⟨rfl, _, rfl, eM, fun z => Bool.noConfusion z⟩)
  unfold cr_tsS at hKt hKf
  have hI0 : cr_fl (τ 4) x1.toNatClampNeg x2.toNatClampNeg I I := fun _ _ _ _ _ => rfl
  have tail : ∀ (v2 : Int32) (M1 J2 : cr_I), cr_at M1 (cr_nx (I 2) (cr_tL I) (cr_tt I)) → M1 2 = I 2 → cr_tL M1 = cr_tL I → J2 = cr_tx M1 (cr_nx (I 2) (cr_tL I) (cr_tt I)) → (cr_isN (I 2) (cr_tL I) (cr_nx (I 2) (cr_tL I) (cr_nx (I 2) (cr_tL I) (cr_tt I))) = true → K (some (.int 1)) (cr_tx (cr_up (cr_up M1 (τ 4 + 18 + x1.toNatClampNeg) x2.toNatClampNeg (if v2 = 0 then 0 else 1)) (τ 4 + 11 + x1.toNatClampNeg) x2.toNatClampNeg (cr_num (I 2) (cr_nx (I 2) (cr_tL I) (cr_nx (I 2) (cr_tL I) (cr_tt I))))) (cr_nx (I 2) (cr_tL I) (cr_nx (I 2) (cr_tL I) (cr_nx (I 2) (cr_tL I) (cr_tt I))))) (cr_rf τ)) → (¬ cr_isN (I 2) (cr_tL I) (cr_nx (I 2) (cr_tL I) (cr_nx (I 2) (cr_tL I) (cr_tt I))) = true → K (some (.int 0)) (cr_tx (cr_up M1 (τ 4 + 18 + x1.toNatClampNeg) x2.toNatClampNeg (if v2 = 0 then 0 else 1)) (cr_nx (I 2) (cr_tL I) (cr_nx (I 2) (cr_tL I) (cr_tt I)))) (cr_rf τ)) → ((0 ≤ x1.toInt ∧ x1.toInt < 6) ∧ (0 ≤ x2.toInt ∧ x2.toInt < 4) ∧ (∀ J3 : cr_I, J3 = cr_up J2 ((τ 4) + 17 + 1 + x1.toNatClampNeg) x2.toNatClampNeg (if v2 = 0 then (0 : Int32) else (1 : Int32)) → (p_yX7_advance τ J3 ∧ (∀ (J4 : cr_I), q_yX7_advance τ J3 J4 → (p_yX7_isNumber τ J4 ∧ (¬ (f_yX7_isNumber τ J4) = 0 → ((0 ≤ x1.toInt ∧ x1.toInt < 6) ∧ p_yX7_number τ J4 ∧ (0 ≤ x2.toInt ∧ x2.toInt < 4) ∧ (∀ J5 : cr_I, J5 = cr_up J4 ((τ 4) + 10 + 1 + x1.toNatClampNeg) x2.toNatClampNeg (f_yX7_number τ J4) → (p_yX7_advance τ J5 ∧ (∀ (J6 : cr_I), q_yX7_advance τ J5 J6 → K (some (.int (1 : Int32))) J6 (cr_rf τ)))))) ∧ ((f_yX7_isNumber τ J4) = 0 → K (some (.int (0 : Int32))) J4 (cr_rf τ)))))))  := by
    rintro v2 M1 J2 ha eB eL rfl k1 k0
    refine ⟨hx, hy, ?_⟩
    rw [e18]
    rintro J3 rfl
    have hu := ha.upadv (τ := τ) (b := τ 4 + 18 + x1.toNatClampNeg) (k := x2.toNatClampNeg) (v := if v2 = 0 then 0 else 1) (by omega)
    rw [eB, eL] at hu
    refine ⟨hu.1, fun J4 hJ4 => ?_⟩
    rw [hu.2 J4 hJ4]
    generalize hM2 : cr_up M1 (τ 4 + 18 + x1.toNatClampNeg) x2.toNatClampNeg (if v2 = 0 then 0 else 1) = M2 at *
    have eB2 : M2 2 = I 2 := by rw [← hM2, cr_up_row_ne (by omega), eB]
    have eL2 : cr_tL M2 = cr_tL I := by rw [← hM2, cr_tL_up (by omega), eL]
    have ha2 : cr_at M2 (cr_nx (I 2) (cr_tL I) (cr_nx (I 2) (cr_tL I) (cr_tt I))) := by
      have := (ha.up (b := τ 4 + 18 + x1.toNatClampNeg) (k := x2.toNatClampNeg) (v := if v2 = 0 then 0 else 1) (by omega)).nx
      rw [hM2, eB2, eL2] at this
      exact this
    have hN := ha2.fN (τ := τ)
    have hn := ha2.nN (τ := τ)
    rw [eB2, eL2] at hN
    rw [eB2] at hn
    refine ⟨hN.1, fun f => ⟨hx, hn.1, hy, ?_⟩, fun f => k0 (hN.2.mp f)⟩
    rw [hN.2, Classical.not_not] at f
    rw [hn.2, e11]
    rintro J5 rfl
    have hu2 := ha2.upadv (τ := τ) (b := τ 4 + 11 + x1.toNatClampNeg) (k := x2.toNatClampNeg) (v := cr_num (I 2) (cr_nx (I 2) (cr_tL I) (cr_nx (I 2) (cr_tL I) (cr_tt I)))) (by omega)
    rw [eB2, eL2] at hu2
    refine ⟨hu2.1, fun J6 hJ6 => ?_⟩
    rw [hu2.2 J6 hJ6]
    exact k1 f
  refine bk_yX7_parseTest_0 hτ h ⟨cr_rd_p hok, ?_⟩
  rw [cr_rd_eq]
  intro v1 ev
  refine ⟨fun c => ⟨hx, hy, ?_⟩, fun c => ?_⟩
  · rw [ev] at c
    rw [e4]
    rintro J1 rfl
    have hu := hat.upadv (τ := τ) (b := τ 4 + 4 + x1.toNatClampNeg) (k := x2.toNatClampNeg) (v := v1) (by omega)
    rw [hI] at hu
    refine ⟨hu.1, fun J2 hJ2 => ?_⟩
    rw [hu.2 J2 hJ2]
    generalize hM1 : cr_up I (τ 4 + 4 + x1.toNatClampNeg) x2.toNatClampNeg v1 = M1 at *
    have eB : M1 2 = I 2 := by rw [← hM1, cr_up_row_ne (by omega)]
    have eL : cr_tL M1 = cr_tL I := by rw [← hM1, cr_tL_up (by omega)]
    have ha : cr_at M1 (cr_nx (I 2) (cr_tL I) (cr_tt I)) := by rw [← hM1]; exact hat.nx.up (by omega)
    have hf1 : cr_fl (τ 4) x1.toNatClampNeg x2.toNatClampNeg I M1 := by rw [← hM1]; exact hI0.up (by omega)
    refine ⟨ha.ok, ?_⟩
    intro v2 ev2
    have hv : v2 = 0 ↔ ¬ cr_isW (I 2) (cr_nx (I 2) (cr_tL I) (cr_tt I)) 10 = true := by rw [ev2, ha.fW0, eB]
    refine ⟨fun d => ?_, fun d => ⟨ha.ok, fun e => ?_, fun e => ?_⟩⟩
    · have d' := d
      rw [hv, Classical.not_not] at d'
      refine tail v2 M1 _ ha eB eL rfl (fun q => ?_) (fun q => ?_)
      · rw [if_neg d, ← hM1, ev]
        exact hKt _ _ _ _ _ (by rw [if_neg c, if_pos d', if_pos q]) rfl
      · exact hKf _ (0, 0, 0) _ (by rw [if_neg c, if_pos d', if_neg q]) (hf1.up (by omega))
    · have d' := hv.mp d
      rw [ha.fW0, eB, Classical.not_not] at e
      refine tail v2 M1 _ ha eB eL rfl (fun q => ?_) (fun q => ?_)
      · rw [if_pos d, ← hM1, ev]
        exact hKt _ _ _ _ _ (by rw [if_neg c, if_neg d', if_pos e, if_pos q]) rfl
      · exact hKf _ (0, 0, 0) _ (by rw [if_neg c, if_neg d', if_pos e, if_neg q]) (hf1.up (by omega))
    · have d' := hv.mp d
      rw [ha.fW0, eB] at e
      exact hKf _ (0, 0, 0) _ (by rw [if_neg c, if_neg d', if_neg e]) hf1
  · rw [ev] at c
    have := hKf (cr_tt I) (0, 0, 0) I (by rw [if_pos c]) hI0
    rw [hI] at this
    exact this)
/-! lines -/
def cr_fl2 (t l : Nat) (I M : cr_I) : Prop := ∀ b j, ¬ (b = 1 ∧ (j = 3 ∨ j = 4)) → ¬ (b = t + 1 ∧ j = l) → ¬ (b = t + 2 ∧ j = l) → b ≠ t + 4 + l → b ≠ t + 11 + l → b ≠ t + 18 + l → M b j = I b j
/-- a line as the table t holds it -/
def cr_lnT (t l : Nat) (M : cr_I) (B : Nat → Int32) (L : Nat) (u : cr_tk) : Prop := M (t + 1) l = (cr_lnS B L u).2.2.1 ∧ M (t + 2) l = nI (cr_lnS B L u).2.2.2 ∧ ∀ k, k < (cr_lnS B L u).2.2.2 → M (t + 4 + l) k = (cr_tsS B L (cr_tst B L (cr_wsS B L u).2.1 k)).2.2.1 ∧ M (t + 18 + l) k = (cr_tsS B L (cr_tst B L (cr_wsS B L u).2.1 k)).2.2.2.1 ∧ M (t + 11 + l) k = (cr_tsS B L (cr_tst B L (cr_wsS B L u).2.1 k)).2.2.2.2
def p_yX7_parseLine (τ : Nat → Nat) (x1 : Int32) (I : cr_I) : Prop := cr_tkok I ∧ (0 ≤ x1.toInt ∧ x1.toInt < 6)
def q_yX7_parseLine (τ : Nat → Nat) (x1 : Int32) (I : cr_I) (r : Int32) (J : cr_I) : Prop := r = (if (cr_lnS (I 2) (cr_tL I) (cr_tt I)).1 = true ∧ ¬ ((cr_lnS (I 2) (cr_tL I) (cr_tt I)).2.2.2 = 4 ∧ cr_isW (I 2) (cr_lnS (I 2) (cr_tL I) (cr_tt I)).2.1 12 = true) then 1 else 0) ∧ ∃ M, J = cr_tx M (cr_lnS (I 2) (cr_tL I) (cr_tt I)).2.1 ∧ cr_fl2 (τ 4) x1.toNatClampNeg I M ∧ ((cr_lnS (I 2) (cr_tL I) (cr_tt I)).1 = true → cr_lnT (τ 4) x1.toNatClampNeg M (I 2) (cr_tL I) (cr_tt I))
theorem bk_yX7_parseLine_0 {Γ : cr_G} {K : cr_K} {τ : Nat → Nat} {I : cr_I} {x1 : Int32} (hτ : cr_tau τ)  (h : cr_Ok yX7_parseLine cX7_parseLine 3 (some .boolean) (cr_rm0 7 151) K 247 247 Γ) (hyp : (0 ≤ x1.toInt ∧ x1.toInt < 6) ∧ (∀ J1 : cr_I, J1 = cr_up I ((τ 4) + 2) x1.toNatClampNeg (0 : Int32) → (p_yX7_parseWish τ x1 J1 ∧ (∀ (r1 : Int32) (J2 : cr_I), q_yX7_parseWish τ x1 J1 r1 J2 → ((¬ r1 = 0 → (p_yX7_isWord τ 3 J2 ∧ (¬ (f_yX7_isWord τ 3 J2) = 0 → cr_V Γ 33 [.ref 1, .int x1, .int (0 : Int32)] [] J2 (cr_rf τ) 247) ∧ ((f_yX7_isWord τ 3 J2) = 0 → K (some (.int (1 : Int32))) J2 (cr_rf τ)))) ∧ (r1 = 0 → K (some (.int (0 : Int32))) J2 (cr_rf τ))))))) : cr_V Γ 0 [.ref 1, .int x1, .null] [] I (cr_rf τ) 247 := by
  refine cr_aload_n h (j := 0) rfl rfl dX7_parseLine_0 ?_
  refine cr_getR h (k := 2) cr_clsX7 (by decide) rfl rfl wf_X7_22 (by decide) rfl rfl dX7_parseLine_1 ?_
  refine cr_getR h (k := 2) cr_clsX6 (by decide) rfl rfl wf_X7_49 (by have := (kt_t (hτ.1 4 (by decide))).1; omega) (kt_t (hτ.1 4 (by decide))).2.1 ((kt_t (hτ.1 4 (by decide))).2.2.2.2.2.2.2 τ).2.1 dX7_parseLine_4 ?_
  refine cr_iload_n h (j := 1) rfl rfl dX7_parseLine_7 ?_
  refine cr_iconst h (v := (0 : Int32)) (by decide) dX7_parseLine_8 ?_
  refine cs_ist h (by have := (kt_t (hτ.1 4 (by decide))).1; omega) (by decide) (kt_t (hτ.1 4 (by decide))).2.2.2.1 hyp.1 (q := x1.toNatClampNeg) rfl dX7_parseLine_9 (fun J1 eJ1 => ?_)
  have hyp := hyp.2 J1 eJ1
  refine cr_aload_n h (j := 0) rfl rfl dX7_parseLine_10 ?_
  refine cr_iload_n h (j := 1) rfl rfl dX7_parseLine_11 ?_
  refine cr_callV h (c0 := 7) (T0 := TX7) C_yX7_parseWish cZ_yX7_parseWish wm_X7_52 wv_yX7_parseWish we_yX7_parseWish (by decide) rfl rfl (cr_rmS (by decide) (by decide)) (As := [.int x1]) rfl (Nat.le_of_ble_eq_true rfl) dX7_parseLine_12 ⟨τ, x1, rfl, hτ, rfl, hyp.1, fun r1 J2 q1 => ?_⟩
  have hyp := hyp.2 r1 J2 q1
  show cr_V Γ 15 [.ref 1, .int x1, .null] [.int r1] J2 (cr_rf τ) 247
  refine cr_if_ne h (tgt := 20) (by decide) dX7_parseLine_15 (fun c1 => ?_) (fun c1 => ?_)
  · have hyp := hyp.1 c1
    refine cr_aload_n h (j := 0) rfl rfl dX7_parseLine_20 ?_
    refine cr_ldcS55 h rfl dX7_parseLine_21 ?_
    refine cr_callV h (c0 := 7) (T0 := TX7) C_yX7_isWord cZ_yX7_isWord wm_X7_57 wv_yX7_isWord we_yX7_isWord (by decide) rfl rfl (cr_rmS (by decide) (by decide)) (As := [.ref 1006]) rfl (Nat.le_of_ble_eq_true rfl) dX7_parseLine_23 ⟨τ, 3, rfl, hτ, rfl, (by decide), hyp.1, ?_⟩
    have hyp := hyp.2
    show cr_V Γ 26 [.ref 1, .int x1, .null] [.int (f_yX7_isWord τ 3 J2)] J2 (cr_rf τ) 247
    refine cr_if_ne h (tgt := 31) (by decide) dX7_parseLine_26 (fun c2 => ?_) (fun c2 => ?_)
    · have hyp := hyp.1 c2
      refine cr_iconst h (v := (0 : Int32)) (by decide) dX7_parseLine_31 ?_
      refine cr_istore_n h (j := 2) rfl (by decide) rfl dX7_parseLine_32 ?_
      show cr_V Γ 33 [.ref 1, .int x1, .int (0 : Int32)] [] J2 (cr_rf τ) 247
      exact cr_weak [true, true, true] hyp
    · have hyp := hyp.2 c2
      refine cr_iconst h (v := (1 : Int32)) (by decide) dX7_parseLine_29 ?_
      refine cr_iret h rfl (by decide) rfl dX7_parseLine_30 ?_
      exact hyp
  · have hyp := hyp.2 c1
    refine cr_iconst h (v := (0 : Int32)) (by decide) dX7_parseLine_18 ?_
    refine cr_iret h rfl (by decide) rfl dX7_parseLine_19 ?_
    exact hyp
theorem bk_yX7_parseLine_33 {Γ : cr_G} {K : cr_K} {τ : Nat → Nat} {I : cr_I} {x1 : Int32} {x2 : Int32} (hτ : cr_tau τ)  (h : cr_Ok yX7_parseLine cX7_parseLine 3 (some .boolean) (cr_rm0 7 151) K 247 247 Γ) (hyp : ((4 : Int32) ≤ x2 → K (some (.int (0 : Int32))) I (cr_rf τ)) ∧ (¬ (4 : Int32) ≤ x2 → (p_yX7_advance τ I ∧ (∀ (J3 : cr_I), q_yX7_advance τ I J3 → (p_yX7_parseTest τ x1 x2 J3 ∧ (∀ (r3 : Int32) (J4 : cr_I), q_yX7_parseTest τ x1 x2 J3 r3 J4 → ((¬ r3 = 0 → ((0 ≤ x1.toInt ∧ x1.toInt < 6) ∧ (∀ J5 : cr_I, J5 = cr_up J4 ((τ 4) + 2) x1.toNatClampNeg (x2 + (1 : Int32)) → (p_yX7_isWord τ 12 J5 ∧ (¬ (f_yX7_isWord τ 12 J5) = 0 → (∀ v1 : Int32, v1 = x2 + (1 : Int32) → cr_V Γ 33 [.ref 1, .int x1, .int v1] [] J5 (cr_rf τ) 247)) ∧ ((f_yX7_isWord τ 12 J5) = 0 → K (some (.int (1 : Int32))) J5 (cr_rf τ)))))) ∧ (r3 = 0 → K (some (.int (0 : Int32))) J4 (cr_rf τ))))))))) : cr_V Γ 33 [.ref 1, .int x1, .int x2] [] I (cr_rf τ) 247 := by
  refine cr_iload_n h (j := 2) rfl rfl dX7_parseLine_33 ?_
  refine cr_iconst h (v := (4 : Int32)) (by decide) dX7_parseLine_34 ?_
  refine cr_icmp_ge h (tgt := 82) (by decide) dX7_parseLine_35 (fun c3 => ?_) (fun c3 => ?_)
  · have hyp := hyp.1 c3
    refine cr_iconst h (v := (0 : Int32)) (by decide) dX7_parseLine_82 ?_
    refine cr_iret h rfl (by decide) rfl dX7_parseLine_83 ?_
    exact hyp
  · have hyp := hyp.2 c3
    refine cr_aload_n h (j := 0) rfl rfl dX7_parseLine_38 ?_
    refine cr_callV h (c0 := 7) (T0 := TX7) C_yX7_advance cZ_yX7_advance wm_X7_32 wv_yX7_advance we_yX7_advance (by decide) rfl rfl (cr_rmS (by decide) (by decide)) (As := []) rfl (Nat.le_of_ble_eq_true rfl) dX7_parseLine_39 ⟨τ, rfl, hτ, rfl, hyp.1, fun J3 q2 => ?_⟩
    have hyp := hyp.2 J3 q2
    show cr_V Γ 42 [.ref 1, .int x1, .int x2] [] J3 (cr_rf τ) 247
    refine cr_aload_n h (j := 0) rfl rfl dX7_parseLine_42 ?_
    refine cr_iload_n h (j := 1) rfl rfl dX7_parseLine_43 ?_
    refine cr_iload_n h (j := 2) rfl rfl dX7_parseLine_44 ?_
    refine cr_callV h (c0 := 7) (T0 := TX7) C_yX7_parseTest cZ_yX7_parseTest wm_X7_61 wv_yX7_parseTest we_yX7_parseTest (by decide) rfl rfl (cr_rmS (by decide) (by decide)) (As := [.int x1, .int x2]) rfl (Nat.le_of_ble_eq_true rfl) dX7_parseLine_45 ⟨τ, x1, x2, rfl, hτ, rfl, hyp.1, fun r3 J4 q3 => ?_⟩
    have hyp := hyp.2 r3 J4 q3
    show cr_V Γ 48 [.ref 1, .int x1, .int x2] [.int r3] J4 (cr_rf τ) 247
    refine cr_if_ne h (tgt := 53) (by decide) dX7_parseLine_48 (fun c4 => ?_) (fun c4 => ?_)
    · have hyp := hyp.1 c4
      refine cr_aload_n h (j := 0) rfl rfl dX7_parseLine_53 ?_
      refine cr_getR h (k := 2) cr_clsX7 (by decide) rfl rfl wf_X7_22 (by decide) rfl rfl dX7_parseLine_54 ?_
      refine cr_getR h (k := 2) cr_clsX6 (by decide) rfl rfl wf_X7_49 (by have := (kt_t (hτ.1 4 (by decide))).1; omega) (kt_t (hτ.1 4 (by decide))).2.1 ((kt_t (hτ.1 4 (by decide))).2.2.2.2.2.2.2 τ).2.1 dX7_parseLine_57 ?_
      refine cr_iload_n h (j := 1) rfl rfl dX7_parseLine_60 ?_
      refine cr_iload_n h (j := 2) rfl rfl dX7_parseLine_61 ?_
      refine cr_iconst h (v := (1 : Int32)) (by decide) dX7_parseLine_62 ?_
      refine cr_iadd h dX7_parseLine_63 ?_
      refine cs_ist h (by have := (kt_t (hτ.1 4 (by decide))).1; omega) (by decide) (kt_t (hτ.1 4 (by decide))).2.2.2.1 hyp.1 (q := x1.toNatClampNeg) rfl dX7_parseLine_64 (fun J5 eJ5 => ?_)
      have hyp := hyp.2 J5 eJ5
      refine cr_aload_n h (j := 0) rfl rfl dX7_parseLine_65 ?_
      refine cr_ldcS65 h rfl dX7_parseLine_66 ?_
      refine cr_callV h (c0 := 7) (T0 := TX7) C_yX7_isWord cZ_yX7_isWord wm_X7_57 wv_yX7_isWord we_yX7_isWord (by decide) rfl rfl (cr_rmS (by decide) (by decide)) (As := [.ref 1015]) rfl (Nat.le_of_ble_eq_true rfl) dX7_parseLine_68 ⟨τ, 12, rfl, hτ, rfl, (by decide), hyp.1, ?_⟩
      have hyp := hyp.2
      show cr_V Γ 71 [.ref 1, .int x1, .int x2] [.int (f_yX7_isWord τ 12 J5)] J5 (cr_rf τ) 247
      refine cr_if_ne h (tgt := 76) (by decide) dX7_parseLine_71 (fun c5 => ?_) (fun c5 => ?_)
      · have hyp := hyp.1 c5
        refine cs_inc h (v := (1 : Int32)) 2 rfl (by decide) (by decide) rfl dX7_parseLine_76 (fun v1 ev1 => ?_)
        have hyp := hyp v1 ev1
        show cr_V Γ 79 [.ref 1, .int x1, .int v1] [] J5 (cr_rf τ) 247
        refine cr_goto h (tgt := 33) (by decide) dX7_parseLine_79 ?_
        exact cr_weak [true, true, true] hyp
      · have hyp := hyp.2 c5
        refine cr_iconst h (v := (1 : Int32)) (by decide) dX7_parseLine_74 ?_
        refine cr_iret h rfl (by decide) rfl dX7_parseLine_75 ?_
        exact hyp
    · have hyp := hyp.2 c4
      refine cr_iconst h (v := (0 : Int32)) (by decide) dX7_parseLine_51 ?_
      refine cr_iret h rfl (by decide) rfl dX7_parseLine_52 ?_
      exact hyp
abbrev T_yX7_parseLine : cr_T := fun vs I R K => ∃ (τ : Nat → Nat) (x1 : Int32), R = cr_rf τ ∧ cr_tau τ ∧ vs = [.ref 1, .int x1] ∧ p_yX7_parseLine τ x1 I ∧ ∀ (r : Int32) J, q_yX7_parseLine τ x1 I r J → K (some (.int r)) J (cr_rf τ)
abbrev S_yX7_parseLine : Prop := cr_C yX7_parseLine cX7_parseLine 3 (some .boolean) (cr_rm0 7 151) 247 247 T_yX7_parseLine
theorem G_yX7_parseLine (H : ∀ (Γ : cr_G) (K : cr_K) (τ : Nat → Nat) (x1 : Int32) (I : cr_I), cr_tau τ → cr_Ok yX7_parseLine cX7_parseLine 3 (some .boolean) (cr_rm0 7 151) K 247 247 Γ → p_yX7_parseLine τ x1 I → (∀ (r : Int32) J, q_yX7_parseLine τ x1 I r J → K (some (.int r)) J (cr_rf τ)) → cr_V Γ 0 [.ref 1, .int x1, .null] [] I (cr_rf τ) 247) : cr_C yX7_parseLine cX7_parseLine 3 (some .boolean) (cr_rm0 7 151) 247 247 T_yX7_parseLine := by
  refine cr_C.of (by decide +kernel) (fun vs I R K hT => ?_) (fun Γ K h vs I R hT => ?_)
  · obtain ⟨τ, x1, rfl, hτ, rfl, hp, hK⟩ := hT
    exact Nat.le_of_ble_eq_true rfl
  · obtain ⟨τ, x1, rfl, hτ, rfl, hp, hK⟩ := hT
    exact H Γ K τ x1 I hτ h hp hK
theorem cr_tx_o {I : cr_I} {t : cr_tk} {b k : Nat} (h : ¬ (b = 1 ∧ (k = 3 ∨ k = 4))) : cr_tx I t b k = I b k := by
  unfold cr_tx cr_up
  rw [if_neg (by omega), if_neg (by omega)]
theorem cr_at.eqv {I M : cr_I} {t : cr_tk} (h : cr_at I t) (e : M 1 1 = I 1 1) : cr_at M t := by
  unfold cr_at cr_tL at *
  rw [e]
  exact h
theorem C_yX7_parseLine : S_yX7_parseLine := G_yX7_parseLine (by
  intro Γ K τ x1 I hτ h hp hK
  obtain ⟨hok, hx⟩ := hp
  have hat := cr_at.of hok
  have hI := hok.id
  have h4 := cr_T4 hτ
  have hl6 : x1.toNatClampNeg < 6 := by show x1.toInt.toNat < 6; omega
  unfold q_yX7_parseLine cr_lnT at hK
  have hln : cr_lnS (I 2) (cr_tL I) (cr_tt I) = if (cr_wsS (I 2) (cr_tL I) (cr_tt I)).1 = true then (if cr_isW (I 2) (cr_wsS (I 2) (cr_tL I) (cr_tt I)).2.1 3 = true then ((cr_tlS (I 2) (cr_tL I) (cr_wsS (I 2) (cr_tL I) (cr_tt I)).2.1 4 0).1, (cr_tlS (I 2) (cr_tL I) (cr_wsS (I 2) (cr_tL I) (cr_tt I)).2.1 4 0).2.1, (cr_wsS (I 2) (cr_tL I) (cr_tt I)).2.2, (cr_tlS (I 2) (cr_tL I) (cr_wsS (I 2) (cr_tL I) (cr_tt I)).2.1 4 0).2.2) else (true, (cr_wsS (I 2) (cr_tL I) (cr_tt I)).2.1, (cr_wsS (I 2) (cr_tL I) (cr_tt I)).2.2, 0)) else (false, (cr_wsS (I 2) (cr_tL I) (cr_tt I)).2.1, 0, 0) := rfl
  have hws := cr_wsS_ok (B := I 2) hat.2
  generalize hL : cr_tL I = L at *
  generalize hB : I 2 = B at *
  generalize hu : cr_tt I = u at *
  generalize hl : x1.toNatClampNeg = l at *
  generalize hwe : cr_wsS B L u = ws at *
  generalize hR : cr_tlS B L ws.2.1 4 0 = R at *
  -- the tests
  have key : ∀ m k, k + m = 4 → ∀ (M : cr_I) (tk : cr_tk), ws.1 = true → cr_isW B ws.2.1 3 = true → cr_nx B L tk = cr_tst B L ws.2.1 k → cr_tok L tk → cr_fl2 (τ 4) l I M → M (τ 4 + 1) l = ws.2.2 → M (τ 4 + 2) l = nI k → (∀ j, j < k → M (τ 4 + 4 + l) j = (cr_tsS B L (cr_tst B L ws.2.1 j)).2.2.1 ∧ M (τ 4 + 18 + l) j = (cr_tsS B L (cr_tst B L ws.2.1 j)).2.2.2.1 ∧ M (τ 4 + 11 + l) j = (cr_tsS B L (cr_tst B L ws.2.1 j)).2.2.2.2) → R = cr_tlS B L ws.2.1 m k → (m = 0 → tk = (cr_tsS B L (cr_tst B L ws.2.1 (k - 1))).2.1 ∧ cr_isW B tk 12 = true) → cr_V Γ 33 [.ref 1, .int x1, .int (nI k)] [] (cr_tx M tk) (cr_rf τ) 247 := by
    intro m
    induction m with
    | zero =>
      intro k hk M tk w1 w3 _ htk hf g1 g2 g3 he hz
      have hk4 : k = 4 := by omega
      obtain ⟨z1, z2⟩ := hz rfl
      refine bk_yX7_parseLine_33 hτ h ⟨fun _ => ?_, fun c => absurd ?_ c⟩
      · refine hK _ _ ?_
        rw [hln, if_pos w1, if_pos w3, he, cr_tlS]
        simp only
        rw [← z1]
        refine ⟨?_, M, rfl, hf, fun _ => ⟨g1, g2, g3⟩⟩
        rw [if_neg (fun q => q.2 ⟨hk4, z2⟩)]
      · rw [hk4]; decide
    | succ m ih =>
      intro k hk M tk w1 w3 hnx htk hf g1 g2 g3 he _
      have hMB : M 2 = B := by
        funext j
        rw [← hB]
        exact hf 2 j (by omega) (by omega) (by omega) (by omega) (by omega) (by omega)
      have hML : M 1 1 = I 1 1 := hf 1 1 (by omega) (by omega) (by omega) (by omega) (by omega) (by omega)
      have hMtL : cr_tL M = L := by rw [← hL]; unfold cr_tL; rw [hML]
      have ha : cr_at M tk := ⟨by rw [hML, hMtL, ← hL]; exact hat.1, by rw [hMtL]; exact htk⟩
      have hadv := ha.adv (τ := τ)
      rw [hMB, hMtL, hnx] at hadv
      have han : cr_at M (cr_tst B L ws.2.1 k) := by
        have := ha.nx
        rw [hMB, hMtL, hnx] at this
        exact this
      have hk4 : (nI k).toNatClampNeg = k := cr_nc (by omega)
      refine bk_yX7_parseLine_33 hτ h ⟨fun c => absurd c (nI_ge (a := k) (b := 4) (by omega) (by omega)), fun _ => ⟨hadv.1, fun J3 hJ3 => ?_⟩⟩
      rw [hadv.2 J3 hJ3]
      refine ⟨⟨han.ok, hx, cr_ix (by omega) (by omega)⟩, fun r3 J4 hq => ?_⟩
      unfold q_yX7_parseTest at hq
      rw [cr_tx_r (by decide), cr_tL_tx, han.tt, hMB, hMtL, hl, hk4] at hq
      obtain ⟨er, M', eJ, hf', hst⟩ := hq
      have hf2 : cr_fl2 (τ 4) l I M' := by
        intro b j q0 q1 q2 q3 q5 q6
        rw [hf' b j (by omega) (by omega) (by omega), cr_tx_o q0]
        exact hf b j q0 q1 q2 q3 q5 q6
      have hg1 : M' (τ 4 + 1) l = ws.2.2 := by rw [hf' _ _ (by omega) (by omega) (by omega), cr_tx_b (by omega)]; exact g1
      have hg3 : ∀ j, j < k → M' (τ 4 + 4 + l) j = (cr_tsS B L (cr_tst B L ws.2.1 j)).2.2.1 ∧ M' (τ 4 + 18 + l) j = (cr_tsS B L (cr_tst B L ws.2.1 j)).2.2.2.1 ∧ M' (τ 4 + 11 + l) j = (cr_tsS B L (cr_tst B L ws.2.1 j)).2.2.2.2 := by
        intro j hj
        rw [hf' _ _ (by omega) (by omega) (by omega), cr_tx_b (by omega), hf' _ _ (by omega) (by omega) (by omega), cr_tx_b (by omega), hf' _ _ (by omega) (by omega) (by omega), cr_tx_b (by omega)]
        exact g3 j hj
      have htk' : cr_tok L (cr_tsS B L (cr_tst B L ws.2.1 k)).2.1 := cr_tsS_ok (cr_tst_ok hws k)
      rw [cr_tlS] at he
      have hnxt : cr_nx B L (cr_tsS B L (cr_tst B L ws.2.1 k)).2.1 = cr_tst B L ws.2.1 (k + 1) := rfl
      generalize hts : cr_tsS B L (cr_tst B L ws.2.1 k) = ts at *
      rw [er, eJ]
      refine ⟨fun c => ⟨hx, ?_⟩, fun c => ?_⟩
      · have ok : ts.1 = true := by
          by_cases q : ts.1 = true
          · exact q
          · rw [if_neg q] at c
            exact absurd rfl c
        rw [if_pos ok] at he
        rw [nI_1, cr_tx_up (by omega), hl]
        rintro J5 rfl
        generalize hM5 : cr_up M' (τ 4 + 2) l (nI (k + 1)) = M5
        have f5 : cr_fl2 (τ 4) l I M5 := by
          intro b j q0 q1 q2 q3 q5 q6
          rw [← hM5]
          by_cases e : b = τ 4 + 2
          · rw [cr_up_k (by omega)]
            exact hf2 b j q0 q1 q2 q3 q5 q6
          · rw [cr_up_b e]
            exact hf2 b j q0 q1 q2 q3 q5 q6
        have g51 : M5 (τ 4 + 1) l = ws.2.2 := by rw [← hM5, cr_up_b (by omega)]; exact hg1
        have g52 : M5 (τ 4 + 2) l = nI (k + 1) := by rw [← hM5, cr_up_s]
        have g53 : ∀ j, j < k + 1 → M5 (τ 4 + 4 + l) j = (cr_tsS B L (cr_tst B L ws.2.1 j)).2.2.1 ∧ M5 (τ 4 + 18 + l) j = (cr_tsS B L (cr_tst B L ws.2.1 j)).2.2.2.1 ∧ M5 (τ 4 + 11 + l) j = (cr_tsS B L (cr_tst B L ws.2.1 j)).2.2.2.2 := by
          intro j hj
          rw [← hM5, cr_up_b (by omega), cr_up_b (by omega), cr_up_b (by omega)]
          by_cases e : j = k
          · rw [e, hts]
            exact hst ok
          · exact hg3 j (by omega)
        have h5B : M5 2 = B := by
          funext j
          rw [← hB]
          exact f5 2 j (by omega) (by omega) (by omega) (by omega) (by omega) (by omega)
        have h5L : M5 1 1 = I 1 1 := f5 1 1 (by omega) (by omega) (by omega) (by omega) (by omega) (by omega)
        have h5tL : cr_tL M5 = L := by rw [← hL]; unfold cr_tL; rw [h5L]
        have ha5 : cr_at M5 ts.2.1 := ⟨by rw [h5L, h5tL, ← hL]; exact hat.1, by rw [h5tL]; exact htk'⟩
        refine ⟨ha5.ok, fun d => ?_, fun d => ?_⟩
        · rw [ha5.fW0, h5B, Classical.not_not] at d
          rw [if_pos d] at he
          rintro v rfl
          exact ih (k + 1) (by omega) M5 ts.2.1 w1 w3 hnxt htk' f5 g51 g52 g53 he (fun _ => ⟨by rw [Nat.add_sub_cancel, hts], d⟩)
        · rw [ha5.fW0, h5B] at d
          rw [if_neg d] at he
          refine hK _ _ ?_
          rw [hln, if_pos w1, if_pos w3, he]
          refine ⟨?_, M5, rfl, f5, fun _ => ⟨g51, g52, g53⟩⟩
          rw [if_pos ⟨rfl, fun q => d q.2⟩]
      · have ok : ¬ ts.1 = true := by
          intro q
          rw [if_pos q] at c
          exact absurd c (by decide)
        rw [if_neg ok] at he
        refine hK _ _ ?_
        rw [hln, if_pos w1, if_pos w3, he]
        refine ⟨?_, M', rfl, hf2, fun z => Bool.noConfusion z⟩
        rw [if_neg (fun q => Bool.noConfusion q.1)]
  -- the wish
  refine bk_yX7_parseLine_0 hτ h ⟨hx, ?_⟩
  rw [hl]
  rintro J1 rfl
  generalize hI1 : cr_up I (τ 4 + 2) l 0 = I1
  have b1 : I1 2 = B := by rw [← hI1, cr_up_row_ne (by omega), hB]
  have e1 : ∀ j, I1 1 j = I 1 j := fun j => by rw [← hI1, cr_up_b (by omega)]
  have l1 : cr_tL I1 = L := by rw [← hL]; unfold cr_tL; rw [e1]
  have t1 : cr_tt I1 = u := by rw [← hu]; unfold cr_tt; rw [e1, e1]
  have ok1 : cr_tkok I1 := by
    unfold cr_tkok cr_Lok at *
    rw [e1, e1, e1]
    exact hok
  refine ⟨⟨ok1, hx⟩, fun r1 J2 hq => ?_⟩
  unfold q_yX7_parseWish at hq
  rw [b1, l1, t1, hwe, hl] at hq
  obtain ⟨er, eJ⟩ := hq
  rw [er, eJ]
  have f1 : cr_fl2 (τ 4) l I I1 := by
    intro b j q0 q1 q2 q3 q5 q6
    rw [← hI1]
    by_cases e : b = τ 4 + 2
    · exact cr_up_k (by omega)
    · exact cr_up_b e
  refine ⟨fun c => ?_, fun c => ?_⟩
  · have w1 : ws.1 = true := by
      by_cases q : ws.1 = true
      · exact q
      · rw [if_neg q] at c
        exact absurd rfl c
    rw [if_pos w1]
    generalize hM : cr_up I1 (τ 4 + 1) l ws.2.2 = M
    have fM : cr_fl2 (τ 4) l I M := by
      intro b j q0 q1 q2 q3 q5 q6
      rw [← hM]
      by_cases e : b = τ 4 + 1
      · rw [cr_up_k (by omega)]
        exact f1 b j q0 q1 q2 q3 q5 q6
      · rw [cr_up_b e]
        exact f1 b j q0 q1 q2 q3 q5 q6
    have gM1 : M (τ 4 + 1) l = ws.2.2 := by rw [← hM, cr_up_s]
    have gM2 : M (τ 4 + 2) l = nI 0 := by rw [← hM, cr_up_b (by omega), ← hI1, cr_up_s]; rfl
    have hMB : M 2 = B := by
      funext j
      rw [← hB]
      exact fM 2 j (by omega) (by omega) (by omega) (by omega) (by omega) (by omega)
    have hML : M 1 1 = I 1 1 := fM 1 1 (by omega) (by omega) (by omega) (by omega) (by omega) (by omega)
    have hMtL : cr_tL M = L := by rw [← hL]; unfold cr_tL; rw [hML]
    have ha : cr_at M ws.2.1 := ⟨by rw [hML, hMtL, ← hL]; exact hat.1, by rw [hMtL]; exact hws⟩
    refine ⟨ha.ok, fun d => ?_, fun d => ?_⟩
    · rw [ha.fW0, hMB, Classical.not_not] at d
      exact key 4 0 rfl M ws.2.1 w1 d rfl hws fM gM1 gM2 (fun j hj => absurd hj (Nat.not_lt_zero _)) hR.symm (fun z => absurd z (by decide))
    · rw [ha.fW0, hMB] at d
      refine hK _ _ ?_
      rw [hln, if_pos w1, if_neg d]
      refine ⟨?_, M, rfl, fM, fun _ => ⟨gM1, gM2, fun j hj => absurd hj (Nat.not_lt_zero _)⟩⟩
      rw [if_pos ⟨rfl, fun q => absurd (show (0 : Nat) = 4 from q.1) (by decide)⟩]
  · have w1 : ¬ ws.1 = true := by
      intro q
      rw [if_pos q] at c
      exact absurd c (by decide)
    rw [if_neg w1]
    refine hK _ _ ?_
    rw [hln, if_neg w1]
    refine ⟨?_, I1, rfl, f1, fun z => Bool.noConfusion z⟩
    rw [if_neg (fun q => Bool.noConfusion q.1)])
/-! the whole text -/
def cr_fp (t : Nat) (I M : cr_I) : Prop := ∀ b k, ¬ (b = 1 ∧ (k = 3 ∨ k = 4)) → ¬ (t ≤ b ∧ b < t + 24) → M b k = I b k
def p_yX7_parse (τ : Nat → Nat) (I : cr_I) : Prop := cr_Lok I
def q_yX7_parse (τ : Nat → Nat) (I : cr_I) (r : Int32) (J : cr_I) : Prop := cr_fp (τ 4) I J ∧ ((∃ p, (cr_paS (I 2) (cr_tL I) 6 0).1 = some p ∧ p ≤ 160 ∧ r = nI p) ∨ ((cr_paS (I 2) (cr_tL I) 6 0).1 = none ∧ r = -1 ∧ J (τ 4) 0 = nI (cr_paS (I 2) (cr_tL I) 6 0).2 ∧ (1 ≤ (cr_paS (I 2) (cr_tL I) 6 0).2 ∧ (cr_paS (I 2) (cr_tL I) 6 0).2 ≤ 6) ∧ ∀ l, l < (cr_paS (I 2) (cr_tL I) 6 0).2 → cr_lnT (τ 4) l J (I 2) (cr_tL I) (cr_lnt (I 2) (cr_tL I) l)))
theorem cr_isW_c {B : Nat → Int32} {t : cr_tk} {w : Nat} (h : cr_isW B t w = true) : t.2 = t.1 + cr_txL.getD w 0 ∧ ∀ k, k < cr_txL.getD w 0 → B (t.1 + k) = cr_txc w k := by
  unfold cr_isW at h
  rw [Bool.and_eq_true] at h
  exact ⟨of_decide_eq_true h.1, cr_eqF_t _ h.2⟩
theorem cr_at.fS {τ : Nat → Nat} {I : cr_I} {t : cr_tk} (h : cr_at I t) : p_yX7_isSign τ 59 (cr_tx I t) ∧ ((f_yX7_isSign τ 59 (cr_tx I t) = 0) ↔ ¬ (t.1 < cr_tL I ∧ I 2 t.1 = 59)) := by
  obtain ⟨⟨eL, hL⟩, h1, h2⟩ := h
  have e2b : ∀ k, cr_tx I t 2 k = I 2 k := fun k => cr_tx_b (by decide)
  unfold p_yX7_isSign f_yX7_isSign
  simp only [cr_atE (τ := τ) eL (show t.1 < 100000 by omega) (show cr_tL I < 100000 by omega), cr_tx_3, cr_nc (show t.1 < 100000 by omega), e2b]
  by_cases q : t.1 < cr_tL I
  · rw [if_pos q, if_pos rfl]
    refine ⟨⟨fun z => absurd rfl z, fun _ => ⟨cr_ix (by omega) (by omega), fun _ => trivial, fun _ => trivial⟩⟩, ?_⟩
    by_cases q2 : I 2 t.1 = 59
    · rw [if_pos q2]
      exact ⟨fun z => absurd z (by decide), fun z => absurd ⟨q, q2⟩ z⟩
    · rw [if_neg q2]
      exact ⟨fun _ z => q2 z.2, fun _ => rfl⟩
  · rw [if_neg q, if_neg (by decide)]
    exact ⟨⟨fun _ => trivial, fun z => absurd z (by decide)⟩, ⟨fun _ z => q z.1, fun _ => rfl⟩⟩
theorem bk_yX7_parse_0 {Γ : cr_G} {K : cr_K} {τ : Nat → Nat} {I : cr_I}  (hτ : cr_tau τ)  (h : cr_Ok yX7_parse cX7_parse 2 (some .int) (cr_rm0 8 173) K 247 247 Γ) (hyp : ∀ J1 : cr_I, J1 = cr_up I 1 4 (0 : Int32) → cr_V Γ 7 [.ref 1, .int (0 : Int32)] [] J1 (cr_rf τ) 247) : cr_V Γ 0 [.ref 1, .null] [] I (cr_rf τ) 247 := by
  refine cr_aload_n h (j := 0) rfl rfl dX7_parse_0 ?_
  refine cr_iconst h (v := (0 : Int32)) (by decide) dX7_parse_1 ?_
  refine cs_put h (k := 4) cr_clsX7 (by decide) rfl rfl rfl rfl wf_X7_29 (by decide) (by decide) rfl dX7_parse_2 (fun J1 eJ1 => ?_)
  have hyp := hyp J1 eJ1
  refine cr_iconst h (v := (0 : Int32)) (by decide) dX7_parse_5 ?_
  refine cr_istore_n h (j := 1) rfl (by decide) rfl dX7_parse_6 ?_
  show cr_V Γ 7 [.ref 1, .int (0 : Int32)] [] J1 (cr_rf τ) 247
  exact cr_weak [true, true] hyp
theorem bk_yX7_parse_7 {Γ : cr_G} {K : cr_K} {τ : Nat → Nat} {I : cr_I} {x1 : Int32} (hτ : cr_tau τ)  (h : cr_Ok yX7_parse cX7_parse 2 (some .int) (cr_rm0 8 173) K 247 247 Γ) (hyp : ((6 : Int32) ≤ x1 → K (some (.int (I 1 3))) I (cr_rf τ)) ∧ (¬ (6 : Int32) ≤ x1 → (p_yX7_advance τ I ∧ (∀ (J2 : cr_I), q_yX7_advance τ I J2 → (p_yX7_parseLine τ x1 J2 ∧ (∀ (r2 : Int32) (J3 : cr_I), q_yX7_parseLine τ x1 J2 r2 J3 → ((¬ r2 = 0 → (((f_yX7_isAtEnd τ J3) = 0 → (p_yX7_isSign τ (59 : Int32) J3 ∧ (¬ (f_yX7_isSign τ (59 : Int32) J3) = 0 → (∀ v1 : Int32, v1 = x1 + (1 : Int32) → cr_V Γ 7 [.ref 1, .int v1] [] J3 (cr_rf τ) 247)) ∧ ((f_yX7_isSign τ (59 : Int32) J3) = 0 → K (some (.int (J3 1 3))) J3 (cr_rf τ)))) ∧ (¬ (f_yX7_isAtEnd τ J3) = 0 → (∀ J4 : cr_I, J4 = cr_up J3 (τ 4) 0 (x1 + (1 : Int32)) → K (some (.int (-1 : Int32))) J4 (cr_rf τ))))) ∧ (r2 = 0 → K (some (.int (J3 1 3))) J3 (cr_rf τ))))))))) : cr_V Γ 7 [.ref 1, .int x1] [] I (cr_rf τ) 247 := by
  refine cr_iload_n h (j := 1) rfl rfl dX7_parse_7 ?_
  refine cr_bipush h (v := (6 : Int32)) (by decide) dX7_parse_8 ?_
  refine cr_icmp_ge h (tgt := 69) (by decide) dX7_parse_10 (fun c1 => ?_) (fun c1 => ?_)
  · have hyp := hyp.1 c1
    refine cr_aload_n h (j := 0) rfl rfl dX7_parse_69 ?_
    refine cr_getI h (k := 3) cr_clsX7 (by decide) rfl rfl wf_X7_26 (by decide) rfl dX7_parse_70 ?_
    refine cr_iret h rfl rfl rfl dX7_parse_73 ?_
    exact hyp
  · have hyp := hyp.2 c1
    refine cr_aload_n h (j := 0) rfl rfl dX7_parse_13 ?_
    refine cr_callV h (c0 := 7) (T0 := TX7) C_yX7_advance cZ_yX7_advance wm_X7_32 wv_yX7_advance we_yX7_advance (by decide) rfl rfl (cr_rmS (by decide) (by decide)) (As := []) rfl (Nat.le_of_ble_eq_true rfl) dX7_parse_14 ⟨τ, rfl, hτ, rfl, hyp.1, fun J2 q1 => ?_⟩
    have hyp := hyp.2 J2 q1
    show cr_V Γ 17 [.ref 1, .int x1] [] J2 (cr_rf τ) 247
    refine cr_aload_n h (j := 0) rfl rfl dX7_parse_17 ?_
    refine cr_iload_n h (j := 1) rfl rfl dX7_parse_18 ?_
    refine cr_callV h (c0 := 7) (T0 := TX7) C_yX7_parseLine cZ_yX7_parseLine wm_X7_35 wv_yX7_parseLine we_yX7_parseLine (by decide) rfl rfl (cr_rmS (by decide) (by decide)) (As := [.int x1]) rfl (Nat.le_of_ble_eq_true rfl) dX7_parse_19 ⟨τ, x1, rfl, hτ, rfl, hyp.1, fun r2 J3 q2 => ?_⟩
    have hyp := hyp.2 r2 J3 q2
    show cr_V Γ 22 [.ref 1, .int x1] [.int r2] J3 (cr_rf τ) 247
    refine cr_if_ne h (tgt := 30) (by decide) dX7_parse_22 (fun c2 => ?_) (fun c2 => ?_)
    · have hyp := hyp.1 c2
      refine cr_aload_n h (j := 0) rfl rfl dX7_parse_30 ?_
      refine cr_callV h (c0 := 7) (T0 := TX7) C_yX7_isAtEnd cZ_yX7_isAtEnd wm_X7_39 wv_yX7_isAtEnd we_yX7_isAtEnd (by decide) rfl rfl (cr_rmS (by decide) (by decide)) (As := []) rfl (Nat.le_of_ble_eq_true rfl) dX7_parse_31 ⟨τ, rfl, hτ, rfl, ?_⟩
      show cr_V Γ 34 [.ref 1, .int x1] [.int (f_yX7_isAtEnd τ J3)] J3 (cr_rf τ) 247
      refine cr_if_eq h (tgt := 49) (by decide) dX7_parse_34 (fun c3 => ?_) (fun c3 => ?_)
      · have hyp := hyp.1 c3
        refine cr_aload_n h (j := 0) rfl rfl dX7_parse_49 ?_
        refine cr_bipush h (v := (59 : Int32)) (by decide) dX7_parse_50 ?_
        refine cr_callV h (c0 := 7) (T0 := TX7) C_yX7_isSign cZ_yX7_isSign wm_X7_46 wv_yX7_isSign we_yX7_isSign (by decide) rfl rfl (cr_rmS (by decide) (by decide)) (As := [.int (59 : Int32)]) rfl (Nat.le_of_ble_eq_true rfl) dX7_parse_52 ⟨τ, (59 : Int32), rfl, hτ, rfl, hyp.1, ?_⟩
        have hyp := hyp.2
        show cr_V Γ 55 [.ref 1, .int x1] [.int (f_yX7_isSign τ (59 : Int32) J3)] J3 (cr_rf τ) 247
        refine cr_if_ne h (tgt := 63) (by decide) dX7_parse_55 (fun c4 => ?_) (fun c4 => ?_)
        · have hyp := hyp.1 c4
          refine cs_inc h (v := (1 : Int32)) 1 rfl (by decide) (by decide) rfl dX7_parse_63 (fun v1 ev1 => ?_)
          have hyp := hyp v1 ev1
          show cr_V Γ 66 [.ref 1, .int v1] [] J3 (cr_rf τ) 247
          refine cr_goto h (tgt := 7) (by decide) dX7_parse_66 ?_
          exact cr_weak [true, true] hyp
        · have hyp := hyp.2 c4
          refine cr_aload_n h (j := 0) rfl rfl dX7_parse_58 ?_
          refine cr_getI h (k := 3) cr_clsX7 (by decide) rfl rfl wf_X7_26 (by decide) rfl dX7_parse_59 ?_
          refine cr_iret h rfl rfl rfl dX7_parse_62 ?_
          exact hyp
      · have hyp := hyp.2 c3
        refine cr_aload_n h (j := 0) rfl rfl dX7_parse_37 ?_
        refine cr_getR h (k := 2) cr_clsX7 (by decide) rfl rfl wf_X7_22 (by decide) rfl rfl dX7_parse_38 ?_
        refine cr_iload_n h (j := 1) rfl rfl dX7_parse_41 ?_
        refine cr_iconst h (v := (1 : Int32)) (by decide) dX7_parse_42 ?_
        refine cr_iadd h dX7_parse_43 ?_
        refine cs_put h (k := 0) cr_clsX6 (by decide) rfl rfl rfl rfl wf_X7_43 (by have := (kt_t (hτ.1 4 (by decide))).1; omega) (by decide) (kt_t (hτ.1 4 (by decide))).2.1 dX7_parse_44 (fun J4 eJ4 => ?_)
        have hyp := hyp J4 eJ4
        refine cr_iconst h (v := (-1 : Int32)) (by decide) dX7_parse_47 ?_
        refine cr_iret h rfl rfl rfl dX7_parse_48 ?_
        exact hyp
    · have hyp := hyp.2 c2
      refine cr_aload_n h (j := 0) rfl rfl dX7_parse_25 ?_
      refine cr_getI h (k := 3) cr_clsX7 (by decide) rfl rfl wf_X7_26 (by decide) rfl dX7_parse_26 ?_
      refine cr_iret h rfl rfl rfl dX7_parse_29 ?_
      exact hyp
abbrev T_yX7_parse : cr_T := fun vs I R K => ∃ (τ : Nat → Nat), R = cr_rf τ ∧ cr_tau τ ∧ vs = [.ref 1] ∧ p_yX7_parse τ I ∧ ∀ (r : Int32) J, q_yX7_parse τ I r J → K (some (.int r)) J (cr_rf τ)
abbrev S_yX7_parse : Prop := cr_C yX7_parse cX7_parse 2 (some .int) (cr_rm0 8 173) 247 247 T_yX7_parse
theorem G_yX7_parse (H : ∀ (Γ : cr_G) (K : cr_K) (τ : Nat → Nat) (I : cr_I), cr_tau τ → cr_Ok yX7_parse cX7_parse 2 (some .int) (cr_rm0 8 173) K 247 247 Γ → p_yX7_parse τ I → (∀ (r : Int32) J, q_yX7_parse τ I r J → K (some (.int r)) J (cr_rf τ)) → cr_V Γ 0 [.ref 1, .null] [] I (cr_rf τ) 247) : cr_C yX7_parse cX7_parse 2 (some .int) (cr_rm0 8 173) 247 247 T_yX7_parse := by
  refine cr_C.of (by decide +kernel) (fun vs I R K hT => ?_) (fun Γ K h vs I R hT => ?_)
  · obtain ⟨τ, rfl, hτ, rfl, hp, hK⟩ := hT
    exact Nat.le_of_ble_eq_true rfl
  · obtain ⟨τ, rfl, hτ, rfl, hp, hK⟩ := hT
    exact H Γ K τ I hτ h hp hK
theorem cr_lnT.eqv {t l L : Nat} {M N : cr_I} {B : Nat → Int32} {u : cr_tk} (h : cr_lnT t l M B L u) (e1 : N (t + 1) l = M (t + 1) l) (e2 : N (t + 2) l = M (t + 2) l) (e4 : ∀ k, N (t + 4 + l) k = M (t + 4 + l) k) (e11 : ∀ k, N (t + 11 + l) k = M (t + 11 + l) k) (e18 : ∀ k, N (t + 18 + l) k = M (t + 18 + l) k) : cr_lnT t l N B L u := by
  unfold cr_lnT at *
  simp only [e1, e2, e4, e11, e18]
  exact h
theorem C_yX7_parse : S_yX7_parse := G_yX7_parse (by
  intro Γ K τ I hτ h hp hK
  have h4 := cr_T4 hτ
  obtain ⟨eL, hLN⟩ := cr_ofI (B := 160) hp.1 hp.2
  have eL' : I 1 1 = nI (cr_tL I) := eL
  have hLN' : cr_tL I ≤ 160 := hLN
  unfold q_yX7_parse at hK
  generalize hL : cr_tL I = L at *
  generalize hB : I 2 = B at *
  generalize hR : cr_paS B L 6 0 = R at *
  have key : ∀ m j, j + m = 6 → ∀ (J M : cr_I), p_yX7_advance τ J → (∀ J', q_yX7_advance τ J J' → J' = cr_tx M (cr_lnt B L j)) → cr_fp (τ 4) I M → (∀ l, l < j → cr_lnT (τ 4) l M B L (cr_lnt B L l)) → R = cr_paS B L m j → (m = 0 → J = cr_tx M (cr_lnS B L (cr_lnt B L (j - 1))).2.1) → cr_V Γ 7 [.ref 1, .int (nI j)] [] J (cr_rf τ) 247 := by
    have hKs : ∀ (M : cr_I) (u : cr_tk) (J : cr_I), J = cr_tx M u → cr_tok L u → cr_fp (τ 4) I M → R.1 = some u.1 → K (some (.int (J 1 3))) J (cr_rf τ) := by
      rintro M u J rfl hu hf hR1
      rw [cr_tx_3]
      refine hK _ _ ⟨fun b k q1 q2 => ?_, Or.inl ⟨u.1, hR1, by unfold cr_tok at hu; omega, rfl⟩⟩
      rw [cr_tx_o q1]
      exact hf b k q1 q2
    intro m
    induction m with
    | zero =>
      intro j hj J M _ _ hf hln hRe hz
      have hj6 : j = 6 := by omega
      refine bk_yX7_parse_7 hτ h ⟨fun _ => ?_, fun c => absurd (by rw [hj6]; decide) c⟩
      refine hKs M _ J (hz rfl) (cr_lnS_ok (cr_lnt_ok _)) hf ?_
      rw [hRe, cr_paS]
    | succ m ih =>
      intro j hj J M hpa hqa hf hln hRe _
      have hMB : M 2 = B := by
        funext k
        rw [← hB]
        exact hf 2 k (by omega) (by omega)
      have hML : M 1 1 = I 1 1 := hf 1 1 (by omega) (by omega)
      have hMtL : cr_tL M = L := by rw [← hL]; unfold cr_tL; rw [hML]
      have ha : cr_at M (cr_lnt B L j) := ⟨by rw [hML, hMtL]; exact ⟨eL', hLN'⟩, by rw [hMtL]; exact cr_lnt_ok j⟩
      have hjc : (nI j).toNatClampNeg = j := cr_nc (by omega)
      refine bk_yX7_parse_7 hτ h ⟨fun c => absurd c (nI_ge (a := j) (b := 6) (by omega) (by omega)), fun _ => ⟨hpa, fun J2 hJ2 => ?_⟩⟩
      rw [hqa J2 hJ2]
      refine ⟨⟨ha.ok, cr_ix (by omega) (by omega)⟩, fun r2 J3 hq => ?_⟩
      unfold q_yX7_parseLine at hq
      rw [cr_tx_r (by decide), cr_tL_tx, ha.tt, hMB, hMtL, hjc] at hq
      obtain ⟨er, M', eJ, hf', hst⟩ := hq
      have htok : cr_tok L (cr_lnS B L (cr_lnt B L j)).2.1 := cr_lnS_ok (cr_lnt_ok j)
      rw [cr_paS] at hRe
      have hnxt : cr_nx B L (cr_lnS B L (cr_lnt B L j)).2.1 = cr_lnt B L (j + 1) := rfl
      generalize hlne : cr_lnS B L (cr_lnt B L j) = ln at *
      have hfM : cr_fp (τ 4) I M' := by
        intro b k q1 q2
        rw [hf' b k q1 (by omega) (by omega) (by omega) (by omega) (by omega), cr_tx_o q1]
        exact hf b k q1 q2
      have hlnM : ∀ l, l < j → cr_lnT (τ 4) l M' B L (cr_lnt B L l) := by
        intro l hl
        refine (hln l hl).eqv ?_ ?_ (fun k => ?_) (fun k => ?_) (fun k => ?_) <;> rw [hf' _ _ (by omega) (by omega) (by omega) (by omega) (by omega) (by omega), cr_tx_b (by omega)]
      have hM'B : M' 2 = B := by
        funext k
        rw [← hB]
        exact hfM 2 k (by omega) (by omega)
      have hM'L : M' 1 1 = I 1 1 := hfM 1 1 (by omega) (by omega)
      have hM'tL : cr_tL M' = L := by rw [← hL]; unfold cr_tL; rw [hM'L]
      have ha' : cr_at M' ln.2.1 := ⟨by rw [hM'L, hM'tL]; exact ⟨eL', hLN'⟩, by rw [hM'tL]; exact htok⟩
      rw [er, eJ, cr_atE (t := ln.2.1) (L := L) (by rw [hM'L]; exact eL') (by unfold cr_tok at htok; omega) (by omega)]
      refine ⟨fun c => ?_, fun c => ?_⟩
      · have ok : ln.1 = true ∧ ¬ (ln.2.2.2 = 4 ∧ cr_isW B ln.2.1 12 = true) := by
          by_cases q : ln.1 = true ∧ ¬ (ln.2.2.2 = 4 ∧ cr_isW B ln.2.1 12 = true)
          · exact q
          · rw [if_neg q] at c
            exact absurd rfl c
        rw [if_pos ok.1] at hRe
        have hS := ha'.fS (τ := τ)
        rw [hM'tL, hM'B] at hS
        have hlnj : ∀ l, l < j + 1 → cr_lnT (τ 4) l M' B L (cr_lnt B L l) := by
          intro l hl
          by_cases e : l = j
          · rw [e]; exact hst ok.1
          · exact hlnM l (by omega)
        by_cases q : ln.2.1.1 < L
        · rw [if_pos q]
          rw [if_pos q] at hRe
          refine ⟨fun _ => ⟨hS.1, fun d => ?_, fun d => ?_⟩, fun z => absurd rfl z⟩
          · rw [hS.2, Classical.not_not] at d
            rw [if_pos d.2] at hRe
            rintro v rfl
            rw [nI_1]
            have had := ha'.adv (τ := τ)
            rw [hM'B, hM'tL, hnxt] at had
            exact ih (j + 1) (by omega) _ M' had.1 had.2 hfM hlnj hRe (fun _ => by rw [Nat.add_sub_cancel, hlne])
          · rw [hS.2] at d
            rw [if_neg (fun z => d ⟨q, z⟩)] at hRe
            exact hKs M' _ _ rfl htok hfM (by rw [hRe])
        · rw [if_neg q]
          rw [if_neg q] at hRe
          refine ⟨fun z => absurd z (by decide), fun _ => ?_⟩
          rw [nI_1, cr_tx_up (by omega)]
          rintro J4 rfl
          refine hK _ _ ⟨fun b k q1 q2 => ?_, Or.inr ⟨by rw [hRe], rfl, ?_, by rw [hRe]; simp only; omega, fun l hl => ?_⟩⟩
          · rw [cr_tx_o q1, cr_up_b (by omega)]
            exact hfM b k q1 q2
          · rw [hRe, cr_tx_b (by omega), cr_up_s]
          · rw [hRe] at hl
            refine (hlnj l hl).eqv ?_ ?_ (fun k => ?_) (fun k => ?_) (fun k => ?_) <;> rw [cr_tx_b (by omega), cr_up_b (by omega)]
      · have ok : ¬ (ln.1 = true ∧ ¬ (ln.2.2.2 = 4 ∧ cr_isW B ln.2.1 12 = true)) := by
          intro q
          rw [if_pos q] at c
          exact absurd c (by decide)
        refine hKs M' _ _ rfl htok hfM ?_
        by_cases q : ln.1 = true
        · have hand : cr_isW B ln.2.1 12 = true := by
            by_cases z : cr_isW B ln.2.1 12 = true
            · exact z
            · exact absurd ⟨q, fun y => z y.2⟩ ok
          obtain ⟨w1, w2⟩ := cr_isW_c hand
          have hl3 : cr_txL.getD 12 0 = 3 := rfl
          have w0 := w2 0 (by rw [hl3]; omega)
          rw [hl3] at w1
          rw [if_pos q, if_pos (by unfold cr_tok at htok; omega), if_neg (by rw [Nat.add_zero] at w0; rw [w0]; decide)] at hRe
          rw [hRe]
        · rw [if_neg q] at hRe
          rw [hRe]
  refine bk_yX7_parse_0 hτ h ?_
  rintro J1 rfl
  have g1 : cr_up I 1 4 (0 : Int32) 1 1 = I 1 1 := cr_up_k (by decide)
  have g4 : cr_up I 1 4 (0 : Int32) 1 4 = 0 := cr_up_s
  have z0 : (0 : Int32).toInt = 0 := rfl
  have hpa : p_yX7_advance τ (cr_up I 1 4 0) := by
    unfold p_yX7_advance cr_Lok
    rw [g1, g4, z0]
    exact ⟨hp, Int.le_refl _, hp.1⟩
  refine key 6 0 rfl (cr_up I 1 4 0) (cr_up I 1 4 0) hpa (fun J' hJ' => ?_) (fun b k q1 q2 => ?_) (fun l hl => absurd hl (Nat.not_lt_zero _)) hR.symm (fun z => absurd z (by decide))
  · unfold q_yX7_advance at hJ'
    rw [hJ', cr_up_row_ne (by decide), hB]
    have e1 : cr_tL (cr_up I 1 4 0) = L := by rw [← hL]; unfold cr_tL; rw [g1]
    rw [e1]
    have e2 : (cr_tt (cr_up I 1 4 0)).2 = 0 := by unfold cr_tt; rw [g4]; rfl
    have e3 : cr_nx B L (cr_tt (cr_up I 1 4 0)) = cr_lnt B L 0 := by
      unfold cr_nx cr_lnt cr_nx
      rw [e2]
    rw [e3]
  · unfold cr_up
    rw [if_neg (by omega)])
