/-! a text becomes a make's table: the reference -/
theorem cr_out0 {τ : Nat → Nat} {x a b : Int32} {I : cr_I} : f_yX8_isOutside τ x a b I = 0 ↔ (a.toInt ≤ x.toInt ∧ x.toInt ≤ b.toInt) := by
  unfold f_yX8_isOutside
  simp only [cr_lt, cr_le]
  by_cases q1 : x.toInt < a.toInt
  · rw [if_pos q1]
    exact ⟨fun z => absurd z (by decide), fun z => by omega⟩
  · rw [if_neg q1]
    by_cases q2 : x.toInt ≤ b.toInt
    · rw [if_pos q2]
      exact ⟨fun _ => by omega, fun _ => rfl⟩
    · rw [if_neg q2]
      exact ⟨fun z => absurd z (by decide), fun z => by omega⟩
theorem cr_mk0 {τ : Nat → Nat} {x : Int32} {I : cr_I} : f_yX9_isMake τ x I = 0 ↔ ¬ (0 ≤ x.toInt ∧ x.toInt ≤ 3) := by
  unfold f_yX9_isMake
  rw [cr_in0, Int32.toInt_toInt64]
  have z0 : (0 : Int64).toInt = 0 := rfl
  have z3 : (3 : Int64).toInt = 3 := rfl
  rw [z0, z3]
theorem cr_nomk0 {τ : Nat → Nat} {x : Int32} {I : cr_I} : f_yX8_isNoMake τ x I = 0 ↔ (0 ≤ x.toInt ∧ x.toInt ≤ 3) := by
  unfold f_yX8_isNoMake
  rw [cr_out0]
  have z0 : (0 : Int32).toInt = 0 := rfl
  have z3 : (3 : Int32).toInt = 3 := rfl
  rw [z0, z3]
def cr_Ptb (m b i : Nat) : Prop := cr_Pf b i ∨ (b = 200 ∧ i = 5) ∨ (b = 206 ∧ i = m) ∨ ((b = 207 ∨ b = 208 ∨ b = 209) ∧ 6 * m ≤ i ∧ i < 6 * m + 6) ∨ ((b = 210 ∨ b = 211 ∨ b = 212) ∧ 24 * m ≤ i ∧ i < 24 * m + 24)
def p_yX9_table (τ : Nat → Nat) (x1 : Int32) (I : cr_I) : Prop := 0 ≤ (I 200 5).toInt ∧ (I 200 5).toInt ≤ 160
def q_yX9_table (τ : Nat → Nat) (x1 : Int32) (I : cr_I) (r : Int32) (J : cr_I) : Prop := (¬ (0 ≤ x1.toInt ∧ x1.toInt ≤ 3) ∧ r = -2 ∧ J = I) ∨ ((0 ≤ x1.toInt ∧ x1.toInt ≤ 3) ∧ ((¬ (cr_paS (I 205) (cr_mL I) 6 0).1 = none ∧ r = -4 ∧ cr_F cr_Pf I J) ∨ ((cr_paS (I 205) (cr_mL I) 6 0).1 = none ∧ r = nI (cr_paS (I 205) (cr_mL I) 6 0).2 ∧ (1 ≤ (cr_paS (I 205) (cr_mL I) 6 0).2 ∧ (cr_paS (I 205) (cr_mL I) 6 0).2 ≤ 6) ∧ cr_F (cr_Ptb x1.toNatClampNeg) I J ∧ J 200 5 = 0 ∧ J 206 x1.toNatClampNeg = nI (cr_paS (I 205) (cr_mL I) 6 0).2 ∧ ∀ l, l < (cr_paS (I 205) (cr_mL I) 6 0).2 → cr_lnM (6 * x1.toNatClampNeg + l) J (I 205) (cr_mL I) (cr_lnt (I 205) (cr_mL I) l))))
theorem bk_yX9_table_0 {Γ : cr_G} {K : cr_K} {τ : Nat → Nat} {I : cr_I} {x1 : Int32} (hτ : cr_tau τ)  (h : cr_Ok yX9_table cX9_table 4 (some .int) (cr_rm0 6 129) K 247 247 Γ) (hyp : (¬ (f_yX9_isMake τ x1 I) = 0 → (p_yX9_fault τ I ∧ (∀ (r1 : Int32) (J1 : cr_I), q_yX9_fault τ I r1 J1 → ((r1 = (-1 : Int32) → ((0 ≤ x1.toInt ∧ x1.toInt < 5) ∧ (∀ J2 : cr_I, J2 = cr_up J1 206 x1.toNatClampNeg (J1 206 4) → cr_V Γ 35 [.ref 200, .int x1, .int (0 : Int32), .null] [] J2 (cr_rf τ) 247))) ∧ (¬ r1 = (-1 : Int32) → K (some (.int (-4 : Int32))) J1 (cr_rf τ)))))) ∧ ((f_yX9_isMake τ x1 I) = 0 → K (some (.int (-2 : Int32))) I (cr_rf τ))) : cr_V Γ 0 [.ref 200, .int x1, .null, .null] [] I (cr_rf τ) 247 := by
  refine cr_iload_n h (j := 1) rfl rfl dX9_table_0 ?_
  refine cr_callS h C_yX9_isMake cZ_yX9_isMake wm_X9_160 ws_yX9_isMake (cr_rmS (by decide) (by decide)) (As := [.int x1]) rfl (Nat.le_of_ble_eq_true rfl) dX9_table_1 ⟨τ, x1, rfl, hτ, rfl, ?_⟩
  show cr_V Γ 4 [.ref 200, .int x1, .null, .null] [.int (f_yX9_isMake τ x1 I)] I (cr_rf τ) 247
  refine cr_if_ne h (tgt := 10) (by decide) dX9_table_4 (fun c1 => ?_) (fun c1 => ?_)
  · have hyp := hyp.1 c1
    refine cr_aload_n h (j := 0) rfl rfl dX9_table_10 ?_
    refine cr_callV h (c0 := 9) (T0 := TX9) C_yX9_fault cZ_yX9_fault wm_X9_243 wv_yX9_fault we_yX9_fault (by decide) rfl rfl (cr_rmS (by decide) (by decide)) (As := []) rfl (Nat.le_of_ble_eq_true rfl) dX9_table_11 ⟨τ, rfl, hτ, rfl, hyp.1, fun r1 J1 q1 => ?_⟩
    have hyp := hyp.2 r1 J1 q1
    show cr_V Γ 14 [.ref 200, .int x1, .null, .null] [.int r1] J1 (cr_rf τ) 247
    refine cr_iconst h (v := (-1 : Int32)) (by decide) dX9_table_14 ?_
    refine cr_icmp_eq h (tgt := 21) (by decide) dX9_table_15 (fun c2 => ?_) (fun c2 => ?_)
    · have hyp := hyp.1 c2
      refine cr_aload_n h (j := 0) rfl rfl dX9_table_21 ?_
      refine cr_getR h (k := 6) cr_clsX9 (by decide) rfl rfl wf_X9_25 (by decide) rfl rfl dX9_table_22 ?_
      refine cr_iload_n h (j := 1) rfl rfl dX9_table_25 ?_
      refine cr_aload_n h (j := 0) rfl rfl dX9_table_26 ?_
      refine cr_getR h (k := 6) cr_clsX9 (by decide) rfl rfl wf_X9_25 (by decide) rfl rfl dX9_table_27 ?_
      refine cr_iconst h (v := (4 : Int32)) (by decide) dX9_table_30 ?_
      refine cs_ild h (by decide) rfl (by decide) (q := 4) (by decide) dX9_table_31 ?_
      refine cs_ist h (by decide) (by decide) rfl hyp.1 (q := x1.toNatClampNeg) rfl dX9_table_32 (fun J2 eJ2 => ?_)
      have hyp := hyp.2 J2 eJ2
      refine cr_iconst h (v := (0 : Int32)) (by decide) dX9_table_33 ?_
      refine cr_istore_n h (j := 2) rfl (by decide) rfl dX9_table_34 ?_
      show cr_V Γ 35 [.ref 200, .int x1, .int (0 : Int32), .null] [] J2 (cr_rf τ) 247
      exact cr_weak [true, true, true, false] hyp
    · have hyp := hyp.2 c2
      refine cr_bipush h (v := (-4 : Int32)) (by decide) dX9_table_18 ?_
      refine cr_iret h rfl rfl rfl dX9_table_20 ?_
      exact hyp
  · have hyp := hyp.2 c1
    refine cr_bipush h (v := (-2 : Int32)) (by decide) dX9_table_7 ?_
    refine cr_iret h rfl rfl rfl dX9_table_9 ?_
    exact hyp
theorem bk_yX9_table_35 {Γ : cr_G} {K : cr_K} {τ : Nat → Nat} {I : cr_I} {x1 : Int32} {x2 : Int32} (hτ : cr_tau τ)  (h : cr_Ok yX9_table cX9_table 4 (some .int) (cr_rm0 6 129) K 247 247 Γ) (hyp : (0 ≤ x1.toInt ∧ x1.toInt < 5) ∧ ((I 206 x1.toNatClampNeg) ≤ x2 → (∀ J3 : cr_I, J3 = cr_up I 200 5 (0 : Int32) → ((0 ≤ x1.toInt ∧ x1.toInt < 5) ∧ K (some (.int (J3 206 x1.toNatClampNeg))) J3 (cr_rf τ)))) ∧ (¬ (I 206 x1.toNatClampNeg) ≤ x2 → ((0 ≤ ((24 : Int32) + x2).toInt ∧ ((24 : Int32) + x2).toInt < 30) ∧ (0 ≤ (((6 : Int32) * x1) + x2).toInt ∧ (((6 : Int32) * x1) + x2).toInt < 30) ∧ (∀ J4 : cr_I, J4 = cr_up I 207 ((((6 : Int32) * x1) + x2).toNatClampNeg) (I 207 ((24 : Int32) + x2).toNatClampNeg) → ((0 ≤ ((24 : Int32) + x2).toInt ∧ ((24 : Int32) + x2).toInt < 30) ∧ (0 ≤ (((6 : Int32) * x1) + x2).toInt ∧ (((6 : Int32) * x1) + x2).toInt < 30) ∧ (∀ J5 : cr_I, J5 = cr_up J4 208 ((((6 : Int32) * x1) + x2).toNatClampNeg) (J4 208 ((24 : Int32) + x2).toNatClampNeg) → ((0 ≤ ((24 : Int32) + x2).toInt ∧ ((24 : Int32) + x2).toInt < 30) ∧ (0 ≤ (((6 : Int32) * x1) + x2).toInt ∧ (((6 : Int32) * x1) + x2).toInt < 30) ∧ (∀ J6 : cr_I, J6 = cr_up J5 209 ((((6 : Int32) * x1) + x2).toNatClampNeg) (J5 209 ((24 : Int32) + x2).toNatClampNeg) → cr_V Γ 107 [.ref 200, .int x1, .int x2, .int (0 : Int32)] [] J6 (cr_rf τ) 247)))))))) : cr_V Γ 35 [.ref 200, .int x1, .int x2, .null] [] I (cr_rf τ) 247 := by
  refine cr_iload_n h (j := 2) rfl rfl dX9_table_35 ?_
  refine cr_aload_n h (j := 0) rfl rfl dX9_table_36 ?_
  refine cr_getR h (k := 6) cr_clsX9 (by decide) rfl rfl wf_X9_25 (by decide) rfl rfl dX9_table_37 ?_
  refine cr_iload_n h (j := 1) rfl rfl dX9_table_40 ?_
  refine cs_ild h (by decide) rfl hyp.1 (q := x1.toNatClampNeg) rfl dX9_table_41 ?_
  have hyp := hyp.2
  refine cr_icmp_ge h (tgt := 208) (by decide) dX9_table_42 (fun c3 => ?_) (fun c3 => ?_)
  · have hyp := hyp.1 c3
    refine cr_aload_n h (j := 0) rfl rfl dX9_table_208 ?_
    refine cr_iconst h (v := (0 : Int32)) (by decide) dX9_table_209 ?_
    refine cs_put h (k := 5) cr_clsX9 (by decide) rfl rfl rfl rfl wf_X9_170 (by decide) (by decide) rfl dX9_table_210 (fun J3 eJ3 => ?_)
    have hyp := hyp J3 eJ3
    refine cr_aload_n h (j := 0) rfl rfl dX9_table_213 ?_
    refine cr_getR h (k := 6) cr_clsX9 (by decide) rfl rfl wf_X9_25 (by decide) rfl rfl dX9_table_214 ?_
    refine cr_iload_n h (j := 1) rfl rfl dX9_table_217 ?_
    refine cs_ild h (by decide) rfl hyp.1 (q := x1.toNatClampNeg) rfl dX9_table_218 ?_
    have hyp := hyp.2
    refine cr_iret h rfl rfl rfl dX9_table_219 ?_
    exact hyp
  · have hyp := hyp.2 c3
    refine cr_aload_n h (j := 0) rfl rfl dX9_table_45 ?_
    refine cr_getR h (k := 7) cr_clsX9 (by decide) rfl rfl wf_X9_28 (by decide) rfl rfl dX9_table_46 ?_
    refine cr_bipush h (v := (6 : Int32)) (by decide) dX9_table_49 ?_
    refine cr_iload_n h (j := 1) rfl rfl dX9_table_51 ?_
    refine cr_imul h dX9_table_52 ?_
    refine cr_iload_n h (j := 2) rfl rfl dX9_table_53 ?_
    refine cr_iadd h dX9_table_54 ?_
    refine cr_aload_n h (j := 0) rfl rfl dX9_table_55 ?_
    refine cr_getR h (k := 7) cr_clsX9 (by decide) rfl rfl wf_X9_28 (by decide) rfl rfl dX9_table_56 ?_
    refine cr_bipush h (v := (24 : Int32)) (by decide) dX9_table_59 ?_
    refine cr_iload_n h (j := 2) rfl rfl dX9_table_61 ?_
    refine cr_iadd h dX9_table_62 ?_
    refine cs_ild h (by decide) rfl hyp.1 (q := ((24 : Int32) + x2).toNatClampNeg) rfl dX9_table_63 ?_
    have hyp := hyp.2
    refine cs_ist h (by decide) (by decide) rfl hyp.1 (q := (((6 : Int32) * x1) + x2).toNatClampNeg) rfl dX9_table_64 (fun J4 eJ4 => ?_)
    have hyp := hyp.2 J4 eJ4
    refine cr_aload_n h (j := 0) rfl rfl dX9_table_65 ?_
    refine cr_getR h (k := 8) cr_clsX9 (by decide) rfl rfl wf_X9_31 (by decide) rfl rfl dX9_table_66 ?_
    refine cr_bipush h (v := (6 : Int32)) (by decide) dX9_table_69 ?_
    refine cr_iload_n h (j := 1) rfl rfl dX9_table_71 ?_
    refine cr_imul h dX9_table_72 ?_
    refine cr_iload_n h (j := 2) rfl rfl dX9_table_73 ?_
    refine cr_iadd h dX9_table_74 ?_
    refine cr_aload_n h (j := 0) rfl rfl dX9_table_75 ?_
    refine cr_getR h (k := 8) cr_clsX9 (by decide) rfl rfl wf_X9_31 (by decide) rfl rfl dX9_table_76 ?_
    refine cr_bipush h (v := (24 : Int32)) (by decide) dX9_table_79 ?_
    refine cr_iload_n h (j := 2) rfl rfl dX9_table_81 ?_
    refine cr_iadd h dX9_table_82 ?_
    refine cs_ild h (by decide) rfl hyp.1 (q := ((24 : Int32) + x2).toNatClampNeg) rfl dX9_table_83 ?_
    have hyp := hyp.2
    refine cs_ist h (by decide) (by decide) rfl hyp.1 (q := (((6 : Int32) * x1) + x2).toNatClampNeg) rfl dX9_table_84 (fun J5 eJ5 => ?_)
    have hyp := hyp.2 J5 eJ5
    refine cr_aload_n h (j := 0) rfl rfl dX9_table_85 ?_
    refine cr_getR h (k := 9) cr_clsX9 (by decide) rfl rfl wf_X9_34 (by decide) rfl rfl dX9_table_86 ?_
    refine cr_bipush h (v := (6 : Int32)) (by decide) dX9_table_89 ?_
    refine cr_iload_n h (j := 1) rfl rfl dX9_table_91 ?_
    refine cr_imul h dX9_table_92 ?_
    refine cr_iload_n h (j := 2) rfl rfl dX9_table_93 ?_
    refine cr_iadd h dX9_table_94 ?_
    refine cr_aload_n h (j := 0) rfl rfl dX9_table_95 ?_
    refine cr_getR h (k := 9) cr_clsX9 (by decide) rfl rfl wf_X9_34 (by decide) rfl rfl dX9_table_96 ?_
    refine cr_bipush h (v := (24 : Int32)) (by decide) dX9_table_99 ?_
    refine cr_iload_n h (j := 2) rfl rfl dX9_table_101 ?_
    refine cr_iadd h dX9_table_102 ?_
    refine cs_ild h (by decide) rfl hyp.1 (q := ((24 : Int32) + x2).toNatClampNeg) rfl dX9_table_103 ?_
    have hyp := hyp.2
    refine cs_ist h (by decide) (by decide) rfl hyp.1 (q := (((6 : Int32) * x1) + x2).toNatClampNeg) rfl dX9_table_104 (fun J6 eJ6 => ?_)
    have hyp := hyp.2 J6 eJ6
    refine cr_iconst h (v := (0 : Int32)) (by decide) dX9_table_105 ?_
    refine cr_istore_n h (j := 3) rfl (by decide) rfl dX9_table_106 ?_
    show cr_V Γ 107 [.ref 200, .int x1, .int x2, .int (0 : Int32)] [] J6 (cr_rf τ) 247
    exact cr_weak [true, true, true, true] hyp
theorem bk_yX9_table_107 {Γ : cr_G} {K : cr_K} {τ : Nat → Nat} {I : cr_I} {x1 : Int32} {x2 : Int32} {x3 : Int32} (hτ : cr_tau τ)  (h : cr_Ok yX9_table cX9_table 4 (some .int) (cr_rm0 6 129) K 247 247 Γ) (hyp : ((4 : Int32) ≤ x3 → (∀ v1 : Int32, v1 = x2 + (1 : Int32) → cr_V Γ 35 [.ref 200, .int x1, .int v1, .null] [] I (cr_rf τ) 247)) ∧ (¬ (4 : Int32) ≤ x3 → ((0 ≤ (((96 : Int32) + ((4 : Int32) * x2)) + x3).toInt ∧ (((96 : Int32) + ((4 : Int32) * x2)) + x3).toInt < 120) ∧ (0 ≤ ((((24 : Int32) * x1) + ((4 : Int32) * x2)) + x3).toInt ∧ ((((24 : Int32) * x1) + ((4 : Int32) * x2)) + x3).toInt < 120) ∧ (∀ J7 : cr_I, J7 = cr_up I 210 (((((24 : Int32) * x1) + ((4 : Int32) * x2)) + x3).toNatClampNeg) (I 210 (((96 : Int32) + ((4 : Int32) * x2)) + x3).toNatClampNeg) → ((0 ≤ (((96 : Int32) + ((4 : Int32) * x2)) + x3).toInt ∧ (((96 : Int32) + ((4 : Int32) * x2)) + x3).toInt < 120) ∧ (0 ≤ ((((24 : Int32) * x1) + ((4 : Int32) * x2)) + x3).toInt ∧ ((((24 : Int32) * x1) + ((4 : Int32) * x2)) + x3).toInt < 120) ∧ (∀ J8 : cr_I, J8 = cr_up J7 211 (((((24 : Int32) * x1) + ((4 : Int32) * x2)) + x3).toNatClampNeg) (J7 211 (((96 : Int32) + ((4 : Int32) * x2)) + x3).toNatClampNeg) → ((0 ≤ (((96 : Int32) + ((4 : Int32) * x2)) + x3).toInt ∧ (((96 : Int32) + ((4 : Int32) * x2)) + x3).toInt < 120) ∧ (0 ≤ ((((24 : Int32) * x1) + ((4 : Int32) * x2)) + x3).toInt ∧ ((((24 : Int32) * x1) + ((4 : Int32) * x2)) + x3).toInt < 120) ∧ (∀ J9 : cr_I, J9 = cr_up J8 212 (((((24 : Int32) * x1) + ((4 : Int32) * x2)) + x3).toNatClampNeg) (J8 212 (((96 : Int32) + ((4 : Int32) * x2)) + x3).toNatClampNeg) → (∀ v2 : Int32, v2 = x3 + (1 : Int32) → cr_V Γ 107 [.ref 200, .int x1, .int x2, .int v2] [] J9 (cr_rf τ) 247))))))))) : cr_V Γ 107 [.ref 200, .int x1, .int x2, .int x3] [] I (cr_rf τ) 247 := by
  refine cr_iload_n h (j := 3) rfl rfl dX9_table_107 ?_
  refine cr_iconst h (v := (4 : Int32)) (by decide) dX9_table_108 ?_
  refine cr_icmp_ge h (tgt := 202) (by decide) dX9_table_109 (fun c4 => ?_) (fun c4 => ?_)
  · have hyp := hyp.1 c4
    refine cs_inc h (v := (1 : Int32)) 2 rfl (by decide) (by decide) rfl dX9_table_202 (fun v1 ev1 => ?_)
    have hyp := hyp v1 ev1
    show cr_V Γ 205 [.ref 200, .int x1, .int v1, .int x3] [] I (cr_rf τ) 247
    refine cr_goto h (tgt := 35) (by decide) dX9_table_205 ?_
    exact cr_weak [true, true, true, false] hyp
  · have hyp := hyp.2 c4
    refine cr_aload_n h (j := 0) rfl rfl dX9_table_112 ?_
    refine cr_getR h (k := 10) cr_clsX9 (by decide) rfl rfl wf_X9_37 (by decide) rfl rfl dX9_table_113 ?_
    refine cr_bipush h (v := (24 : Int32)) (by decide) dX9_table_116 ?_
    refine cr_iload_n h (j := 1) rfl rfl dX9_table_118 ?_
    refine cr_imul h dX9_table_119 ?_
    refine cr_iconst h (v := (4 : Int32)) (by decide) dX9_table_120 ?_
    refine cr_iload_n h (j := 2) rfl rfl dX9_table_121 ?_
    refine cr_imul h dX9_table_122 ?_
    refine cr_iadd h dX9_table_123 ?_
    refine cr_iload_n h (j := 3) rfl rfl dX9_table_124 ?_
    refine cr_iadd h dX9_table_125 ?_
    refine cr_aload_n h (j := 0) rfl rfl dX9_table_126 ?_
    refine cr_getR h (k := 10) cr_clsX9 (by decide) rfl rfl wf_X9_37 (by decide) rfl rfl dX9_table_127 ?_
    refine cr_bipush h (v := (96 : Int32)) (by decide) dX9_table_130 ?_
    refine cr_iconst h (v := (4 : Int32)) (by decide) dX9_table_132 ?_
    refine cr_iload_n h (j := 2) rfl rfl dX9_table_133 ?_
    refine cr_imul h dX9_table_134 ?_
    refine cr_iadd h dX9_table_135 ?_
    refine cr_iload_n h (j := 3) rfl rfl dX9_table_136 ?_
    refine cr_iadd h dX9_table_137 ?_
    refine cs_ild h (by decide) rfl hyp.1 (q := (((96 : Int32) + ((4 : Int32) * x2)) + x3).toNatClampNeg) rfl dX9_table_138 ?_
    have hyp := hyp.2
    refine cs_ist h (by decide) (by decide) rfl hyp.1 (q := ((((24 : Int32) * x1) + ((4 : Int32) * x2)) + x3).toNatClampNeg) rfl dX9_table_139 (fun J7 eJ7 => ?_)
    have hyp := hyp.2 J7 eJ7
    refine cr_aload_n h (j := 0) rfl rfl dX9_table_140 ?_
    refine cr_getR h (k := 11) cr_clsX9 (by decide) rfl rfl wf_X9_40 (by decide) rfl rfl dX9_table_141 ?_
    refine cr_bipush h (v := (24 : Int32)) (by decide) dX9_table_144 ?_
    refine cr_iload_n h (j := 1) rfl rfl dX9_table_146 ?_
    refine cr_imul h dX9_table_147 ?_
    refine cr_iconst h (v := (4 : Int32)) (by decide) dX9_table_148 ?_
    refine cr_iload_n h (j := 2) rfl rfl dX9_table_149 ?_
    refine cr_imul h dX9_table_150 ?_
    refine cr_iadd h dX9_table_151 ?_
    refine cr_iload_n h (j := 3) rfl rfl dX9_table_152 ?_
    refine cr_iadd h dX9_table_153 ?_
    refine cr_aload_n h (j := 0) rfl rfl dX9_table_154 ?_
    refine cr_getR h (k := 11) cr_clsX9 (by decide) rfl rfl wf_X9_40 (by decide) rfl rfl dX9_table_155 ?_
    refine cr_bipush h (v := (96 : Int32)) (by decide) dX9_table_158 ?_
    refine cr_iconst h (v := (4 : Int32)) (by decide) dX9_table_160 ?_
    refine cr_iload_n h (j := 2) rfl rfl dX9_table_161 ?_
    refine cr_imul h dX9_table_162 ?_
    refine cr_iadd h dX9_table_163 ?_
    refine cr_iload_n h (j := 3) rfl rfl dX9_table_164 ?_
    refine cr_iadd h dX9_table_165 ?_
    refine cs_ild h (by decide) rfl hyp.1 (q := (((96 : Int32) + ((4 : Int32) * x2)) + x3).toNatClampNeg) rfl dX9_table_166 ?_
    have hyp := hyp.2
    refine cs_ist h (by decide) (by decide) rfl hyp.1 (q := ((((24 : Int32) * x1) + ((4 : Int32) * x2)) + x3).toNatClampNeg) rfl dX9_table_167 (fun J8 eJ8 => ?_)
    have hyp := hyp.2 J8 eJ8
    refine cr_aload_n h (j := 0) rfl rfl dX9_table_168 ?_
    refine cr_getR h (k := 12) cr_clsX9 (by decide) rfl rfl wf_X9_43 (by decide) rfl rfl dX9_table_169 ?_
    refine cr_bipush h (v := (24 : Int32)) (by decide) dX9_table_172 ?_
    refine cr_iload_n h (j := 1) rfl rfl dX9_table_174 ?_
    refine cr_imul h dX9_table_175 ?_
    refine cr_iconst h (v := (4 : Int32)) (by decide) dX9_table_176 ?_
    refine cr_iload_n h (j := 2) rfl rfl dX9_table_177 ?_
    refine cr_imul h dX9_table_178 ?_
    refine cr_iadd h dX9_table_179 ?_
    refine cr_iload_n h (j := 3) rfl rfl dX9_table_180 ?_
    refine cr_iadd h dX9_table_181 ?_
    refine cr_aload_n h (j := 0) rfl rfl dX9_table_182 ?_
    refine cr_getR h (k := 12) cr_clsX9 (by decide) rfl rfl wf_X9_43 (by decide) rfl rfl dX9_table_183 ?_
    refine cr_bipush h (v := (96 : Int32)) (by decide) dX9_table_186 ?_
    refine cr_iconst h (v := (4 : Int32)) (by decide) dX9_table_188 ?_
    refine cr_iload_n h (j := 2) rfl rfl dX9_table_189 ?_
    refine cr_imul h dX9_table_190 ?_
    refine cr_iadd h dX9_table_191 ?_
    refine cr_iload_n h (j := 3) rfl rfl dX9_table_192 ?_
    refine cr_iadd h dX9_table_193 ?_
    refine cs_ild h (by decide) rfl hyp.1 (q := (((96 : Int32) + ((4 : Int32) * x2)) + x3).toNatClampNeg) rfl dX9_table_194 ?_
    have hyp := hyp.2
    refine cs_ist h (by decide) (by decide) rfl hyp.1 (q := ((((24 : Int32) * x1) + ((4 : Int32) * x2)) + x3).toNatClampNeg) rfl dX9_table_195 (fun J9 eJ9 => ?_)
    have hyp := hyp.2 J9 eJ9
    refine cs_inc h (v := (1 : Int32)) 3 rfl (by decide) (by decide) rfl dX9_table_196 (fun v2 ev2 => ?_)
    have hyp := hyp v2 ev2
    show cr_V Γ 199 [.ref 200, .int x1, .int x2, .int v2] [] J9 (cr_rf τ) 247
    refine cr_goto h (tgt := 107) (by decide) dX9_table_199 ?_
    exact cr_weak [true, true, true, true] hyp
abbrev T_yX9_table : cr_T := fun vs I R K => ∃ (τ : Nat → Nat) (x1 : Int32), R = cr_rf τ ∧ cr_tau τ ∧ vs = [.ref 200, .int x1] ∧ p_yX9_table τ x1 I ∧ ∀ (r : Int32) J, q_yX9_table τ x1 I r J → K (some (.int r)) J (cr_rf τ)
abbrev S_yX9_table : Prop := cr_C yX9_table cX9_table 4 (some .int) (cr_rm0 6 129) 247 247 T_yX9_table
theorem G_yX9_table (H : ∀ (Γ : cr_G) (K : cr_K) (τ : Nat → Nat) (x1 : Int32) (I : cr_I), cr_tau τ → cr_Ok yX9_table cX9_table 4 (some .int) (cr_rm0 6 129) K 247 247 Γ → p_yX9_table τ x1 I → (∀ (r : Int32) J, q_yX9_table τ x1 I r J → K (some (.int r)) J (cr_rf τ)) → cr_V Γ 0 [.ref 200, .int x1, .null, .null] [] I (cr_rf τ) 247) : cr_C yX9_table cX9_table 4 (some .int) (cr_rm0 6 129) 247 247 T_yX9_table := by
  refine cr_C.of (by decide +kernel) (fun vs I R K hT => ?_) (fun Γ K h vs I R hT => ?_)
  · obtain ⟨τ, x1, rfl, hτ, rfl, hp, hK⟩ := hT
    exact Nat.le_of_ble_eq_true rfl
  · obtain ⟨τ, x1, rfl, hτ, rfl, hp, hK⟩ := hT
    exact H Γ K τ x1 I hτ h hp hK
theorem C_yX9_table : S_yX9_table := G_yX9_table (by
  intro Γ K τ x1 I hτ h hp hK
  unfold q_yX9_table at hK
  refine bk_yX9_table_0 hτ h ?_
  rw [cr_mk0]
  refine ⟨fun c => ⟨hp, fun r1 J1 hq => ?_⟩, fun c => hK _ _ (Or.inl ⟨c, rfl, rfl⟩)⟩
  rw [Classical.not_not] at c
  obtain ⟨em, hm⟩ := cr_ofI (B := 3) c.1 c.2
  obtain ⟨f1, hq⟩ := hq
  generalize cr_mL I = L at *
  generalize I 205 = B at *
  generalize cr_paS B L 6 0 = R at *
  generalize x1.toNatClampNeg = m at *
  rcases hq with ⟨p0, hR1, hp0, rfl⟩ | ⟨hR1, rfl, j4, hn, hlns⟩
  · have hne : ¬ nI p0 = (-1 : Int32) := by
      rw [cr_eq, cr_nt (by omega)]
      intro z
      have : (-1 : Int32).toInt = -1 := rfl
      omega
    exact ⟨fun z => absurd z hne, fun _ => hK _ _ (Or.inr ⟨c, Or.inl ⟨by rw [hR1]; simp, rfl, f1⟩⟩)⟩
  · refine ⟨fun _ => ⟨by omega, ?_⟩, fun z => absurd rfl z⟩
    rw [j4]
    rintro J2 rfl
    generalize R.2 = N at *
    have hK' : ∀ J, cr_F (cr_Ptb m) I J → J 200 5 = 0 → J 206 m = nI N → (∀ l, l < N → cr_lnM (6 * m + l) J B L (cr_lnt B L l)) → K (some (.int (nI N))) J (cr_rf τ) := fun J a1 a2 a3 a4 => hK _ _ (Or.inr ⟨c, Or.inr ⟨hR1, rfl, hn, a1, a2, a3, a4⟩⟩)
    have e6 : ∀ i, (6 : Int32) * x1 + nI i = nI (6 * m + i) := fun i => by rw [em, show (6 : Int32) = nI 6 from rfl, pk_mul, nI_add]
    have e24 : ∀ i, (24 : Int32) + nI i = nI (24 + i) := fun i => by rw [show (24 : Int32) = nI 24 from rfl, nI_add]
    have e96 : ∀ i k, (96 : Int32) + (4 : Int32) * nI i + nI k = nI (4 * (24 + i) + k) := fun i k => by
      rw [show (96 : Int32) = nI 96 from rfl, show (4 : Int32) = nI 4 from rfl, pk_mul, nI_add, nI_add]
      congr 1
      omega
    have e24m : ∀ i k, (24 : Int32) * x1 + (4 : Int32) * nI i + nI k = nI (4 * (6 * m + i) + k) := fun i k => by
      rw [em, show (24 : Int32) = nI 24 from rfl, show (4 : Int32) = nI 4 from rfl, pk_mul, pk_mul, nI_add, nI_add]
      congr 1
      omega
    refine cr_loop (fun i => ∀ J, cr_F (cr_Ptb m) I J → J 206 m = nI N → (∀ l, l < N → cr_lnM (24 + l) J B L (cr_lnt B L l)) → (∀ l, l < i → cr_lnM (6 * m + l) J B L (cr_lnt B L l)) → cr_V Γ 35 [.ref 200, .int x1, .int (nI i), .null] [] J (cr_rf τ) 247) N ?_ ?_ 0 (Nat.zero_le _) _ ?_ ?_ ?_ (fun l hl => absurd hl (Nat.not_lt_zero _))
    · intro J hf em6 hs hd
      have hc5 : x1.toNatClampNeg = m := by rw [em]; exact cr_nc (by omega)
      refine bk_yX9_table_35 hτ h ⟨by omega, fun _ => ?_, fun z => absurd ?_ z⟩
      · rintro J3 rfl
        refine ⟨by omega, ?_⟩
        rw [hc5, cr_up_b (show (206 : Nat) ≠ 200 by decide), em6]
        refine hK' _ (hf.up (by unfold cr_Ptb; omega)) cr_up_s (by rw [cr_up_b (by decide)]; exact em6) (fun l hl => ?_)
        refine (hd l hl).eqv ?_ ?_ ?_ (fun k hk => ?_) (fun k hk => ?_) (fun k hk => ?_) <;> exact cr_up_b (by decide)
      · rw [hc5, em6]
        exact Int32.le_refl _
    · intro i hi ih J hf em6 hs hd
      have hc5 : x1.toNatClampNeg = m := by rw [em]; exact cr_nc (by omega)
      refine bk_yX9_table_35 hτ h ⟨by omega, fun z => absurd z ?_, fun _ => ?_⟩
      · rw [hc5, em6]
        exact cr_nle hi (by omega)
      · rw [e24, e6, cr_nc (show 24 + i < 100000 by omega), cr_nc (show 6 * m + i < 100000 by omega)]
        have b24 : (0 : Int) ≤ (nI (24 + i)).toInt ∧ (nI (24 + i)).toInt < 30 := cr_ix (by omega) (by omega)
        have b6 : (0 : Int) ≤ (nI (6 * m + i)).toInt ∧ (nI (6 * m + i)).toInt < 30 := cr_ix (by omega) (by omega)
        refine ⟨b24, b6, ?_⟩
        rintro J4 rfl
        refine ⟨b24, b6, ?_⟩
        rintro J5 rfl
        refine ⟨b24, b6, ?_⟩
        rintro J6 rfl
        have hf6 := ((hf.up (b := 207) (k := 6 * m + i) (v := J 207 (24 + i)) (by unfold cr_Ptb; omega)).up (b := 208) (k := 6 * m + i) (v := J 208 (24 + i)) (by unfold cr_Ptb; omega)).up (b := 209) (k := 6 * m + i) (v := J 209 (24 + i)) (by unfold cr_Ptb; omega)
        rw [cr_up_b (show (208 : Nat) ≠ 207 by decide), cr_up_b (show (209 : Nat) ≠ 208 by decide), cr_up_b (show (209 : Nat) ≠ 207 by decide)]
        have g7 : ∀ l, cr_up (cr_up (cr_up J 207 (6 * m + i) (J 207 (24 + i))) 208 (6 * m + i) (J 208 (24 + i))) 209 (6 * m + i) (J 209 (24 + i)) 207 l = if l = 6 * m + i then J 207 (24 + i) else J 207 l := by
          intro l
          rw [cr_up_b (by decide), cr_up_b (by decide)]
          by_cases q : l = 6 * m + i
          · rw [if_pos q, q, cr_up_s]
          · rw [if_neg q, cr_up_k q]
        have g8 : ∀ l, cr_up (cr_up (cr_up J 207 (6 * m + i) (J 207 (24 + i))) 208 (6 * m + i) (J 208 (24 + i))) 209 (6 * m + i) (J 209 (24 + i)) 208 l = if l = 6 * m + i then J 208 (24 + i) else J 208 l := by
          intro l
          rw [cr_up_b (by decide)]
          by_cases q : l = 6 * m + i
          · rw [if_pos q, q, cr_up_s]
          · rw [if_neg q, cr_up_k q, cr_up_b (by decide)]
        have g9 : ∀ l, cr_up (cr_up (cr_up J 207 (6 * m + i) (J 207 (24 + i))) 208 (6 * m + i) (J 208 (24 + i))) 209 (6 * m + i) (J 209 (24 + i)) 209 l = if l = 6 * m + i then J 209 (24 + i) else J 209 l := by
          intro l
          by_cases q : l = 6 * m + i
          · rw [if_pos q, q, cr_up_s]
          · rw [if_neg q, cr_up_k q, cr_up_b (by decide), cr_up_b (by decide)]
        have gx : ∀ b l, b ≠ 207 → b ≠ 208 → b ≠ 209 → cr_up (cr_up (cr_up J 207 (6 * m + i) (J 207 (24 + i))) 208 (6 * m + i) (J 208 (24 + i))) 209 (6 * m + i) (J 209 (24 + i)) b l = J b l := fun b l a1 a2 a3 => by rw [cr_up_b a3, cr_up_b a2, cr_up_b a1]
        generalize cr_up (cr_up (cr_up J 207 (6 * m + i) (J 207 (24 + i))) 208 (6 * m + i) (J 208 (24 + i))) 209 (6 * m + i) (J 209 (24 + i)) = J6 at *
        -- the tests of the line
        refine cr_loop (fun k => ∀ M, cr_F (cr_Ptb m) I M → (∀ b l, ¬ ((b = 210 ∨ b = 211 ∨ b = 212) ∧ 4 * (6 * m + i) ≤ l ∧ l < 4 * (6 * m + i) + 4) → M b l = J6 b l) → (∀ q, q < k → M 210 (4 * (6 * m + i) + q) = J6 210 (4 * (24 + i) + q) ∧ M 211 (4 * (6 * m + i) + q) = J6 211 (4 * (24 + i) + q) ∧ M 212 (4 * (6 * m + i) + q) = J6 212 (4 * (24 + i) + q)) → cr_V Γ 107 [.ref 200, .int x1, .int (nI i), .int (nI k)] [] M (cr_rf τ) 247) 4 ?_ ?_ 0 (Nat.zero_le _) J6 hf6 (fun _ _ _ => rfl) (fun q hq => absurd hq (Nat.not_lt_zero _))
        · intro M hfM hM hq
          refine bk_yX9_table_107 hτ h ⟨fun _ => ?_, fun z => absurd (by decide) z⟩
          rintro v rfl
          rw [nI_1]
          refine ih M hfM ?_ (fun l hl => ?_) (fun l hl => ?_)
          · rw [hM 206 m (by omega), gx 206 m (by decide) (by decide) (by decide)]; exact em6
          · refine (hs l hl).eqv ?_ ?_ ?_ (fun k hk => ?_) (fun k hk => ?_) (fun k hk => ?_)
            · rw [hM 207 _ (by omega), g7, if_neg (by omega)]
            · rw [hM 208 _ (by omega), g8, if_neg (by omega)]
            · rw [hM 209 _ (by omega), g9, if_neg (by omega)]
            · rw [hM 210 _ (by omega), gx 210 _ (by decide) (by decide) (by decide)]
            · rw [hM 211 _ (by omega), gx 211 _ (by decide) (by decide) (by decide)]
            · rw [hM 212 _ (by omega), gx 212 _ (by decide) (by decide) (by decide)]
          · by_cases e : l = i
            · subst e
              have h0 := hs l (by omega)
              unfold cr_lnM at h0 ⊢
              have h4 := cr_lnS_n (B := B) (L := L) (t := cr_lnt B L l)
              rw [hM 207 _ (by omega), g7, if_pos rfl, hM 208 _ (by omega), g8, if_pos rfl, hM 209 _ (by omega), g9, if_pos rfl]
              refine ⟨h0.1, h0.2.1, fun k hk => ?_⟩
              obtain ⟨a1, a2, a3⟩ := hq k (by omega)
              rw [a1, a2, a3, gx 210 _ (by decide) (by decide) (by decide), gx 211 _ (by decide) (by decide) (by decide), gx 212 _ (by decide) (by decide) (by decide)]
              exact h0.2.2 k hk
            · refine (hd l (by omega)).eqv ?_ ?_ ?_ (fun k hk => ?_) (fun k hk => ?_) (fun k hk => ?_)
              · rw [hM 207 _ (by omega), g7, if_neg (by omega)]
              · rw [hM 208 _ (by omega), g8, if_neg (by omega)]
              · rw [hM 209 _ (by omega), g9, if_neg (by omega)]
              · rw [hM 210 _ (by omega), gx 210 _ (by decide) (by decide) (by decide)]
              · rw [hM 211 _ (by omega), gx 211 _ (by decide) (by decide) (by decide)]
              · rw [hM 212 _ (by omega), gx 212 _ (by decide) (by decide) (by decide)]
        · intro k hk ih2 M hfM hM hq
          have bs : (0 : Int) ≤ (nI (4 * (24 + i) + k)).toInt ∧ (nI (4 * (24 + i) + k)).toInt < 120 := cr_ix (by omega) (by omega)
          have bd : (0 : Int) ≤ (nI (4 * (6 * m + i) + k)).toInt ∧ (nI (4 * (6 * m + i) + k)).toInt < 120 := cr_ix (by omega) (by omega)
          refine bk_yX9_table_107 hτ h ⟨fun z => absurd z (nI_ge (a := k) (b := 4) (by omega) (by omega)), fun _ => ?_⟩
          rw [e96, e24m, cr_nc (show 4 * (24 + i) + k < 100000 by omega), cr_nc (show 4 * (6 * m + i) + k < 100000 by omega)]
          refine ⟨bs, bd, ?_⟩
          rintro J7 rfl
          refine ⟨bs, bd, ?_⟩
          rintro J8 rfl
          refine ⟨bs, bd, ?_⟩
          rintro J9 rfl v rfl
          rw [nI_1, cr_up_b (show (211 : Nat) ≠ 210 by decide), cr_up_b (show (212 : Nat) ≠ 211 by decide), cr_up_b (show (212 : Nat) ≠ 210 by decide)]
          have s0 := hM 210 (4 * (24 + i) + k) (by omega)
          have s1 := hM 211 (4 * (24 + i) + k) (by omega)
          have s2 := hM 212 (4 * (24 + i) + k) (by omega)
          refine ih2 _ (((hfM.up (by unfold cr_Ptb; omega)).up (by unfold cr_Ptb; omega)).up (by unfold cr_Ptb; omega)) (fun b l hbl => ?_) (fun q hqk => ?_)
          · unfold cr_up
            rw [if_neg (by omega), if_neg (by omega), if_neg (by omega)]
            exact hM b l hbl
          · by_cases e : q = k
            · subst e
              refine ⟨?_, ?_, ?_⟩
              · rw [cr_up_b (by decide), cr_up_b (by decide), cr_up_s, s0]
              · rw [cr_up_b (by decide), cr_up_s, s1]
              · rw [cr_up_s, s2]
            · obtain ⟨a1, a2, a3⟩ := hq q (by omega)
              refine ⟨?_, ?_, ?_⟩
              · rw [cr_up_b (by decide), cr_up_b (by decide), cr_up_k (by omega), a1]
              · rw [cr_up_b (by decide), cr_up_k (by omega), cr_up_b (by decide), a2]
              · rw [cr_up_k (by omega), cr_up_b (by decide), cr_up_b (by decide), a3]
    · have f1' : cr_F (cr_Ptb m) I J1 := f1.wd (fun b i z => Or.inl z)
      exact f1'.up (Or.inr (Or.inr (Or.inl ⟨rfl, rfl⟩)))
    · exact cr_up_s
    · intro l hl
      refine (hlns l hl).eqv ?_ ?_ ?_ (fun k hk => ?_) (fun k hk => ?_) (fun k hk => ?_) <;> exact cr_up_b (by decide))
