/-! the reference's clocks -/
def cr_moffs (I : cr_I) (c : Nat) : Int := (I 227 c).toInt
def cr_mka (I : cr_I) (k : Nat) : Nat := (I 228 (I 230 k).toNatClampNeg).toNatClampNeg
def cr_mkb (I : cr_I) (k : Nat) : Nat := (I 228 (I 231 k).toNatClampNeg).toNatClampNeg
def cr_mkw (I : cr_I) (k : Nat) : Int := (I 232 k).toInt - (I 229 (I 231 k).toNatClampNeg).toInt + (I 229 (I 230 k).toNatClampNeg).toInt
def cr_mfe (I : cr_I) (x : Nat → Int) : Prop := fw_fe (cr_moffs I) (I 200 43).toNatClampNeg (cr_mka I) (cr_mkb I) (cr_mkw I) x
def p_yX9_layOffs (τ : Nat → Nat) (I : cr_I) : Prop := cr_cw (I 227) (I 228) (I 229) (I 230) (I 231) (I 232) (I 200 43)
def cr_lo (J : cr_I) (c : Nat) : Int := (J 245 c).toInt
def cr_hi (J : cr_I) (c : Nat) : Int := (J 246 c).toInt
def q_yX9_layOffs (τ : Nat → Nat) (I : cr_I) (r : Int32) (J : cr_I) : Prop := cr_fr 245 246 I J ∧ ((r = 1 ∧ (cr_mfe I (cr_lo J) ∧ ∀ x, cr_mfe I x → ∀ c, c < 6 → cr_lo J c ≤ x c) ∧ (cr_mfe I (cr_hi J) ∧ ∀ x, cr_mfe I x → ∀ c, c < 6 → x c ≤ cr_hi J c)) ∨ (r = 0 ∧ ∀ x, ¬ cr_mfe I x))
theorem bk_yX9_layOffs_0 {Γ : cr_G} {K : cr_K} {τ : Nat → Nat} {I : cr_I}  (hτ : cr_tau τ)  (h : cr_Ok yX9_layOffs cX9_layOffs 6 (some .boolean) (cr_rm0 0 0) K 247 247 Γ) (hyp : cr_V Γ 2 [.ref 200, .int (0 : Int32), .null, .null, .null, .null] [] I (cr_rf τ) 247) : cr_V Γ 0 [.ref 200, .null, .null, .null, .null, .null] [] I (cr_rf τ) 247 := by
  refine cr_iconst h (v := (0 : Int32)) (by decide) dX9_layOffs_0 ?_
  refine cr_istore_n h (j := 1) rfl (by decide) rfl dX9_layOffs_1 ?_
  show cr_V Γ 2 [.ref 200, .int (0 : Int32), .null, .null, .null, .null] [] I (cr_rf τ) 247
  exact cr_weak [true, true, false, false, false, false] hyp
theorem bk_yX9_layOffs_2 {Γ : cr_G} {K : cr_K} {τ : Nat → Nat} {I : cr_I} {x1 : Int32} (hτ : cr_tau τ)  (h : cr_Ok yX9_layOffs cX9_layOffs 6 (some .boolean) (cr_rm0 0 0) K 247 247 Γ) (hyp : ((6 : Int32) ≤ x1 → cr_V Γ 41 [.ref 200, .int (1 : Int32), .null, .null, .null, .null] [] I (cr_rf τ) 247) ∧ (¬ (6 : Int32) ≤ x1 → ((0 ≤ x1.toInt ∧ x1.toInt < 6) ∧ (0 ≤ x1.toInt ∧ x1.toInt < 6) ∧ (∀ J1 : cr_I, J1 = cr_up I 245 x1.toNatClampNeg (-(I 227 x1.toNatClampNeg)) → ((0 ≤ x1.toInt ∧ x1.toInt < 6) ∧ (0 ≤ x1.toInt ∧ x1.toInt < 6) ∧ (∀ J2 : cr_I, J2 = cr_up J1 246 x1.toNatClampNeg (J1 227 x1.toNatClampNeg) → (∀ v1 : Int32, v1 = x1 + (1 : Int32) → cr_V Γ 2 [.ref 200, .int v1, .null, .null, .null, .null] [] J2 (cr_rf τ) 247))))))) : cr_V Γ 2 [.ref 200, .int x1, .null, .null, .null, .null] [] I (cr_rf τ) 247 := by
  refine cr_iload_n h (j := 1) rfl rfl dX9_layOffs_2 ?_
  refine cr_bipush h (v := (6 : Int32)) (by decide) dX9_layOffs_3 ?_
  refine cr_icmp_ge h (tgt := 39) (by decide) dX9_layOffs_5 (fun c1 => ?_) (fun c1 => ?_)
  · have hyp := hyp.1 c1
    refine cr_iconst h (v := (1 : Int32)) (by decide) dX9_layOffs_39 ?_
    refine cr_istore_n h (j := 1) rfl (by decide) rfl dX9_layOffs_40 ?_
    show cr_V Γ 41 [.ref 200, .int (1 : Int32), .null, .null, .null, .null] [] I (cr_rf τ) 247
    exact cr_weak [true, true, false, false, false, false] hyp
  · have hyp := hyp.2 c1
    refine cr_aload_n h (j := 0) rfl rfl dX9_layOffs_8 ?_
    refine cr_getR h (k := 63) cr_clsX9 (by decide) rfl rfl wf_X9_146 (by decide) rfl rfl dX9_layOffs_9 ?_
    refine cr_iload_n h (j := 1) rfl rfl dX9_layOffs_12 ?_
    refine cr_aload_n h (j := 0) rfl rfl dX9_layOffs_13 ?_
    refine cr_getR h (k := 36) cr_clsX9 (by decide) rfl rfl wf_X9_92 (by decide) rfl rfl dX9_layOffs_14 ?_
    refine cr_iload_n h (j := 1) rfl rfl dX9_layOffs_17 ?_
    refine cs_ild h (by decide) rfl hyp.1 (q := x1.toNatClampNeg) rfl dX9_layOffs_18 ?_
    have hyp := hyp.2
    refine cr_ineg h dX9_layOffs_19 ?_
    refine cs_ist h (by decide) (by decide) rfl hyp.1 (q := x1.toNatClampNeg) rfl dX9_layOffs_20 (fun J1 eJ1 => ?_)
    have hyp := hyp.2 J1 eJ1
    refine cr_aload_n h (j := 0) rfl rfl dX9_layOffs_21 ?_
    refine cr_getR h (k := 64) cr_clsX9 (by decide) rfl rfl wf_X9_149 (by decide) rfl rfl dX9_layOffs_22 ?_
    refine cr_iload_n h (j := 1) rfl rfl dX9_layOffs_25 ?_
    refine cr_aload_n h (j := 0) rfl rfl dX9_layOffs_26 ?_
    refine cr_getR h (k := 36) cr_clsX9 (by decide) rfl rfl wf_X9_92 (by decide) rfl rfl dX9_layOffs_27 ?_
    refine cr_iload_n h (j := 1) rfl rfl dX9_layOffs_30 ?_
    refine cs_ild h (by decide) rfl hyp.1 (q := x1.toNatClampNeg) rfl dX9_layOffs_31 ?_
    have hyp := hyp.2
    refine cs_ist h (by decide) (by decide) rfl hyp.1 (q := x1.toNatClampNeg) rfl dX9_layOffs_32 (fun J2 eJ2 => ?_)
    have hyp := hyp.2 J2 eJ2
    refine cs_inc h (v := (1 : Int32)) 1 rfl (by decide) (by decide) rfl dX9_layOffs_33 (fun v1 ev1 => ?_)
    have hyp := hyp v1 ev1
    show cr_V Γ 36 [.ref 200, .int v1, .null, .null, .null, .null] [] J2 (cr_rf τ) 247
    refine cr_goto h (tgt := 2) (by decide) dX9_layOffs_36 ?_
    exact cr_weak [true, true, false, false, false, false] hyp
theorem bk_yX9_layOffs_41 {Γ : cr_G} {K : cr_K} {τ : Nat → Nat} {I : cr_I} {x1 : Int32} (hτ : cr_tau τ)  (h : cr_Ok yX9_layOffs cX9_layOffs 6 (some .boolean) (cr_rm0 0 0) K 247 247 Γ) (hyp : (x1 = 0 → K (some (.int (1 : Int32))) I (cr_rf τ)) ∧ (¬ x1 = 0 → cr_V Γ 49 [.ref 200, .int (0 : Int32), .int (0 : Int32), .null, .null, .null] [] I (cr_rf τ) 247)) : cr_V Γ 41 [.ref 200, .int x1, .null, .null, .null, .null] [] I (cr_rf τ) 247 := by
  refine cr_iload_n h (j := 1) rfl rfl dX9_layOffs_41 ?_
  refine cr_if_eq h (tgt := 257) (by decide) dX9_layOffs_42 (fun c2 => ?_) (fun c2 => ?_)
  · have hyp := hyp.1 c2
    refine cr_iconst h (v := (1 : Int32)) (by decide) dX9_layOffs_257 ?_
    refine cr_iret h rfl (by decide) rfl dX9_layOffs_258 ?_
    exact hyp
  · have hyp := hyp.2 c2
    refine cr_iconst h (v := (0 : Int32)) (by decide) dX9_layOffs_45 ?_
    refine cr_istore_n h (j := 1) rfl (by decide) rfl dX9_layOffs_46 ?_
    show cr_V Γ 47 [.ref 200, .int (0 : Int32), .null, .null, .null, .null] [] I (cr_rf τ) 247
    refine cr_iconst h (v := (0 : Int32)) (by decide) dX9_layOffs_47 ?_
    refine cr_istore_n h (j := 2) rfl (by decide) rfl dX9_layOffs_48 ?_
    show cr_V Γ 49 [.ref 200, .int (0 : Int32), .int (0 : Int32), .null, .null, .null] [] I (cr_rf τ) 247
    exact cr_weak [true, true, true, false, false, false] hyp
theorem bk_yX9_layOffs_49 {Γ : cr_G} {K : cr_K} {τ : Nat → Nat} {I : cr_I} {x1 : Int32} {x2 : Int32} (hτ : cr_tau τ)  (h : cr_Ok yX9_layOffs cX9_layOffs 6 (some .boolean) (cr_rm0 0 0) K 247 247 Γ) (hyp : ((I 200 43) ≤ x2 → cr_V Γ 41 [.ref 200, .int x1, .null, .null, .null, .null] [] I (cr_rf τ) 247) ∧ (¬ (I 200 43) ≤ x2 → ((0 ≤ x2.toInt ∧ x2.toInt < 12) ∧ (0 ≤ (I 230 x2.toNatClampNeg).toInt ∧ (I 230 x2.toNatClampNeg).toInt < 12) ∧ (∀ v2 : Int32, v2 = (I 228 (I 230 x2.toNatClampNeg).toNatClampNeg) → ((0 ≤ x2.toInt ∧ x2.toInt < 12) ∧ (0 ≤ (I 231 x2.toNatClampNeg).toInt ∧ (I 231 x2.toNatClampNeg).toInt < 12) ∧ (∀ v3 : Int32, v3 = (I 228 (I 231 x2.toNatClampNeg).toNatClampNeg) → ((0 ≤ x2.toInt ∧ x2.toInt < 12) ∧ (0 ≤ x2.toInt ∧ x2.toInt < 12) ∧ (0 ≤ (I 231 x2.toNatClampNeg).toInt ∧ (I 231 x2.toNatClampNeg).toInt < 12) ∧ (0 ≤ x2.toInt ∧ x2.toInt < 12) ∧ (0 ≤ (I 230 x2.toNatClampNeg).toInt ∧ (I 230 x2.toNatClampNeg).toInt < 12) ∧ (∀ v4 : Int32, v4 = (((I 232 x2.toNatClampNeg) - (I 229 (I 231 x2.toNatClampNeg).toNatClampNeg)) + (I 229 (I 230 x2.toNatClampNeg).toNatClampNeg)) → ((¬ v2 = v3 → cr_V Γ 127 [.ref 200, .int x1, .int x2, .int v2, .int v3, .int v4] [] I (cr_rf τ) 247) ∧ (v2 = v3 → ((v4 ≤ 0 → cr_V Γ 127 [.ref 200, .int x1, .int x2, .int v2, .int v3, .int v4] [] I (cr_rf τ) 247) ∧ (¬ v4 ≤ 0 → K (some (.int (0 : Int32))) I (cr_rf τ))))))))))))) : cr_V Γ 49 [.ref 200, .int x1, .int x2, .null, .null, .null] [] I (cr_rf τ) 247 := by
  refine cr_iload_n h (j := 2) rfl rfl dX9_layOffs_49 ?_
  refine cr_aload_n h (j := 0) rfl rfl dX9_layOffs_50 ?_
  refine cr_getI h (k := 43) cr_clsX9 (by decide) rfl rfl wf_X9_386 (by decide) rfl dX9_layOffs_51 ?_
  refine cr_icmp_ge h (tgt := 254) (by decide) dX9_layOffs_54 (fun c3 => ?_) (fun c3 => ?_)
  · have hyp := hyp.1 c3
    refine cr_goto h (tgt := 41) (by decide) dX9_layOffs_254 ?_
    exact cr_weak [true, true, false, false, false, false] hyp
  · have hyp := hyp.2 c3
    refine cr_aload_n h (j := 0) rfl rfl dX9_layOffs_57 ?_
    refine cr_getR h (k := 37) cr_clsX9 (by decide) rfl rfl wf_X9_95 (by decide) rfl rfl dX9_layOffs_58 ?_
    refine cr_aload_n h (j := 0) rfl rfl dX9_layOffs_61 ?_
    refine cr_getR h (k := 40) cr_clsX9 (by decide) rfl rfl wf_X9_101 (by decide) rfl rfl dX9_layOffs_62 ?_
    refine cr_iload_n h (j := 2) rfl rfl dX9_layOffs_65 ?_
    refine cs_ild h (by decide) rfl hyp.1 (q := x2.toNatClampNeg) rfl dX9_layOffs_66 ?_
    have hyp := hyp.2
    refine cs_ild h (by decide) rfl hyp.1 (q := (I 230 x2.toNatClampNeg).toNatClampNeg) rfl dX9_layOffs_67 ?_
    have hyp := hyp.2
    refine cs_i_n h 3 rfl (by decide) rfl dX9_layOffs_68 (fun v2 ev2 => ?_)
    have hyp := hyp v2 ev2
    show cr_V Γ 69 [.ref 200, .int x1, .int x2, .int v2, .null, .null] [] I (cr_rf τ) 247
    refine cr_aload_n h (j := 0) rfl rfl dX9_layOffs_69 ?_
    refine cr_getR h (k := 37) cr_clsX9 (by decide) rfl rfl wf_X9_95 (by decide) rfl rfl dX9_layOffs_70 ?_
    refine cr_aload_n h (j := 0) rfl rfl dX9_layOffs_73 ?_
    refine cr_getR h (k := 41) cr_clsX9 (by decide) rfl rfl wf_X9_104 (by decide) rfl rfl dX9_layOffs_74 ?_
    refine cr_iload_n h (j := 2) rfl rfl dX9_layOffs_77 ?_
    refine cs_ild h (by decide) rfl hyp.1 (q := x2.toNatClampNeg) rfl dX9_layOffs_78 ?_
    have hyp := hyp.2
    refine cs_ild h (by decide) rfl hyp.1 (q := (I 231 x2.toNatClampNeg).toNatClampNeg) rfl dX9_layOffs_79 ?_
    have hyp := hyp.2
    refine cs_i h 4 (by decide) rfl dX9_layOffs_80 (fun v3 ev3 => ?_)
    have hyp := hyp v3 ev3
    show cr_V Γ 82 [.ref 200, .int x1, .int x2, .int v2, .int v3, .null] [] I (cr_rf τ) 247
    refine cr_aload_n h (j := 0) rfl rfl dX9_layOffs_82 ?_
    refine cr_getR h (k := 42) cr_clsX9 (by decide) rfl rfl wf_X9_107 (by decide) rfl rfl dX9_layOffs_83 ?_
    refine cr_iload_n h (j := 2) rfl rfl dX9_layOffs_86 ?_
    refine cs_ild h (by decide) rfl hyp.1 (q := x2.toNatClampNeg) rfl dX9_layOffs_87 ?_
    have hyp := hyp.2
    refine cr_aload_n h (j := 0) rfl rfl dX9_layOffs_88 ?_
    refine cr_getR h (k := 38) cr_clsX9 (by decide) rfl rfl wf_X9_98 (by decide) rfl rfl dX9_layOffs_89 ?_
    refine cr_aload_n h (j := 0) rfl rfl dX9_layOffs_92 ?_
    refine cr_getR h (k := 41) cr_clsX9 (by decide) rfl rfl wf_X9_104 (by decide) rfl rfl dX9_layOffs_93 ?_
    refine cr_iload_n h (j := 2) rfl rfl dX9_layOffs_96 ?_
    refine cs_ild h (by decide) rfl hyp.1 (q := x2.toNatClampNeg) rfl dX9_layOffs_97 ?_
    have hyp := hyp.2
    refine cs_ild h (by decide) rfl hyp.1 (q := (I 231 x2.toNatClampNeg).toNatClampNeg) rfl dX9_layOffs_98 ?_
    have hyp := hyp.2
    refine cr_isub h dX9_layOffs_99 ?_
    refine cr_aload_n h (j := 0) rfl rfl dX9_layOffs_100 ?_
    refine cr_getR h (k := 38) cr_clsX9 (by decide) rfl rfl wf_X9_98 (by decide) rfl rfl dX9_layOffs_101 ?_
    refine cr_aload_n h (j := 0) rfl rfl dX9_layOffs_104 ?_
    refine cr_getR h (k := 40) cr_clsX9 (by decide) rfl rfl wf_X9_101 (by decide) rfl rfl dX9_layOffs_105 ?_
    refine cr_iload_n h (j := 2) rfl rfl dX9_layOffs_108 ?_
    refine cs_ild h (by decide) rfl hyp.1 (q := x2.toNatClampNeg) rfl dX9_layOffs_109 ?_
    have hyp := hyp.2
    refine cs_ild h (by decide) rfl hyp.1 (q := (I 230 x2.toNatClampNeg).toNatClampNeg) rfl dX9_layOffs_110 ?_
    have hyp := hyp.2
    refine cr_iadd h dX9_layOffs_111 ?_
    refine cs_i h 5 (by decide) rfl dX9_layOffs_112 (fun v4 ev4 => ?_)
    have hyp := hyp v4 ev4
    show cr_V Γ 114 [.ref 200, .int x1, .int x2, .int v2, .int v3, .int v4] [] I (cr_rf τ) 247
    refine cr_iload_n h (j := 3) rfl rfl dX9_layOffs_114 ?_
    refine cr_iload h rfl dX9_layOffs_115 ?_
    refine cr_icmp_ne h (tgt := 127) (by decide) dX9_layOffs_117 (fun c4 => ?_) (fun c4 => ?_)
    · have hyp := hyp.1 c4
      exact cr_weak [true, true, true, true, true, true] hyp
    · have hyp := hyp.2 c4
      refine cr_iload h rfl dX9_layOffs_120 ?_
      refine cr_if_le h (tgt := 127) (by decide) dX9_layOffs_122 (fun c5 => ?_) (fun c5 => ?_)
      · have hyp := hyp.1 c5
        exact cr_weak [true, true, true, true, true, true] hyp
      · have hyp := hyp.2 c5
        refine cr_iconst h (v := (0 : Int32)) (by decide) dX9_layOffs_125 ?_
        refine cr_iret h rfl (by decide) rfl dX9_layOffs_126 ?_
        exact hyp
theorem bk_yX9_layOffs_127 {Γ : cr_G} {K : cr_K} {τ : Nat → Nat} {I : cr_I} {x1 : Int32} {x2 : Int32} {x3 : Int32} {x4 : Int32} {x5 : Int32} (hτ : cr_tau τ)  (h : cr_Ok yX9_layOffs cX9_layOffs 6 (some .boolean) (cr_rm0 0 0) K 247 247 Γ) (hyp : (x3 = x4 → cr_V Γ 170 [.ref 200, .int x1, .int x2, .int x3, .int x4, .int x5] [] I (cr_rf τ) 247) ∧ (¬ x3 = x4 → ((0 ≤ x3.toInt ∧ x3.toInt < 6) ∧ (0 ≤ x4.toInt ∧ x4.toInt < 6) ∧ (((I 245 x3.toNatClampNeg) + x5) ≤ (I 245 x4.toNatClampNeg) → cr_V Γ 170 [.ref 200, .int x1, .int x2, .int x3, .int x4, .int x5] [] I (cr_rf τ) 247) ∧ (¬ ((I 245 x3.toNatClampNeg) + x5) ≤ (I 245 x4.toNatClampNeg) → ((0 ≤ x3.toInt ∧ x3.toInt < 6) ∧ (0 ≤ x4.toInt ∧ x4.toInt < 6) ∧ (∀ J3 : cr_I, J3 = cr_up I 245 x4.toNatClampNeg ((I 245 x3.toNatClampNeg) + x5) → cr_V Γ 170 [.ref 200, .int (1 : Int32), .int x2, .int x3, .int x4, .int x5] [] J3 (cr_rf τ) 247)))))) : cr_V Γ 127 [.ref 200, .int x1, .int x2, .int x3, .int x4, .int x5] [] I (cr_rf τ) 247 := by
  refine cr_iload_n h (j := 3) rfl rfl dX9_layOffs_127 ?_
  refine cr_iload h rfl dX9_layOffs_128 ?_
  refine cr_icmp_eq h (tgt := 170) (by decide) dX9_layOffs_130 (fun c6 => ?_) (fun c6 => ?_)
  · have hyp := hyp.1 c6
    exact cr_weak [true, true, true, true, true, true] hyp
  · have hyp := hyp.2 c6
    refine cr_aload_n h (j := 0) rfl rfl dX9_layOffs_133 ?_
    refine cr_getR h (k := 63) cr_clsX9 (by decide) rfl rfl wf_X9_146 (by decide) rfl rfl dX9_layOffs_134 ?_
    refine cr_iload_n h (j := 3) rfl rfl dX9_layOffs_137 ?_
    refine cs_ild h (by decide) rfl hyp.1 (q := x3.toNatClampNeg) rfl dX9_layOffs_138 ?_
    have hyp := hyp.2
    refine cr_iload h rfl dX9_layOffs_139 ?_
    refine cr_iadd h dX9_layOffs_141 ?_
    refine cr_aload_n h (j := 0) rfl rfl dX9_layOffs_142 ?_
    refine cr_getR h (k := 63) cr_clsX9 (by decide) rfl rfl wf_X9_146 (by decide) rfl rfl dX9_layOffs_143 ?_
    refine cr_iload h rfl dX9_layOffs_146 ?_
    refine cs_ild h (by decide) rfl hyp.1 (q := x4.toNatClampNeg) rfl dX9_layOffs_148 ?_
    have hyp := hyp.2
    refine cr_icmp_le h (tgt := 170) (by decide) dX9_layOffs_149 (fun c7 => ?_) (fun c7 => ?_)
    · have hyp := hyp.1 c7
      exact cr_weak [true, true, true, true, true, true] hyp
    · have hyp := hyp.2 c7
      refine cr_aload_n h (j := 0) rfl rfl dX9_layOffs_152 ?_
      refine cr_getR h (k := 63) cr_clsX9 (by decide) rfl rfl wf_X9_146 (by decide) rfl rfl dX9_layOffs_153 ?_
      refine cr_iload h rfl dX9_layOffs_156 ?_
      refine cr_aload_n h (j := 0) rfl rfl dX9_layOffs_158 ?_
      refine cr_getR h (k := 63) cr_clsX9 (by decide) rfl rfl wf_X9_146 (by decide) rfl rfl dX9_layOffs_159 ?_
      refine cr_iload_n h (j := 3) rfl rfl dX9_layOffs_162 ?_
      refine cs_ild h (by decide) rfl hyp.1 (q := x3.toNatClampNeg) rfl dX9_layOffs_163 ?_
      have hyp := hyp.2
      refine cr_iload h rfl dX9_layOffs_164 ?_
      refine cr_iadd h dX9_layOffs_166 ?_
      refine cs_ist h (by decide) (by decide) rfl hyp.1 (q := x4.toNatClampNeg) rfl dX9_layOffs_167 (fun J3 eJ3 => ?_)
      have hyp := hyp.2 J3 eJ3
      refine cr_iconst h (v := (1 : Int32)) (by decide) dX9_layOffs_168 ?_
      refine cr_istore_n h (j := 1) rfl (by decide) rfl dX9_layOffs_169 ?_
      show cr_V Γ 170 [.ref 200, .int (1 : Int32), .int x2, .int x3, .int x4, .int x5] [] J3 (cr_rf τ) 247
      exact cr_weak [true, true, true, true, true, true] hyp
theorem bk_yX9_layOffs_170 {Γ : cr_G} {K : cr_K} {τ : Nat → Nat} {I : cr_I} {x1 : Int32} {x2 : Int32} {x3 : Int32} {x4 : Int32} {x5 : Int32} (hτ : cr_tau τ)  (h : cr_Ok yX9_layOffs cX9_layOffs 6 (some .boolean) (cr_rm0 0 0) K 247 247 Γ) (hyp : (x3 = x4 → cr_V Γ 213 [.ref 200, .int x1, .int x2, .int x3, .int x4, .null] [] I (cr_rf τ) 247) ∧ (¬ x3 = x4 → ((0 ≤ x4.toInt ∧ x4.toInt < 6) ∧ (0 ≤ x3.toInt ∧ x3.toInt < 6) ∧ ((I 246 x3.toNatClampNeg) ≤ ((I 246 x4.toNatClampNeg) - x5) → cr_V Γ 213 [.ref 200, .int x1, .int x2, .int x3, .int x4, .null] [] I (cr_rf τ) 247) ∧ (¬ (I 246 x3.toNatClampNeg) ≤ ((I 246 x4.toNatClampNeg) - x5) → ((0 ≤ x4.toInt ∧ x4.toInt < 6) ∧ (0 ≤ x3.toInt ∧ x3.toInt < 6) ∧ (∀ J4 : cr_I, J4 = cr_up I 246 x3.toNatClampNeg ((I 246 x4.toNatClampNeg) - x5) → cr_V Γ 213 [.ref 200, .int (1 : Int32), .int x2, .int x3, .int x4, .null] [] J4 (cr_rf τ) 247)))))) : cr_V Γ 170 [.ref 200, .int x1, .int x2, .int x3, .int x4, .int x5] [] I (cr_rf τ) 247 := by
  refine cr_iload_n h (j := 3) rfl rfl dX9_layOffs_170 ?_
  refine cr_iload h rfl dX9_layOffs_171 ?_
  refine cr_icmp_eq h (tgt := 213) (by decide) dX9_layOffs_173 (fun c8 => ?_) (fun c8 => ?_)
  · have hyp := hyp.1 c8
    exact cr_weak [true, true, true, true, true, false] hyp
  · have hyp := hyp.2 c8
    refine cr_aload_n h (j := 0) rfl rfl dX9_layOffs_176 ?_
    refine cr_getR h (k := 64) cr_clsX9 (by decide) rfl rfl wf_X9_149 (by decide) rfl rfl dX9_layOffs_177 ?_
    refine cr_iload h rfl dX9_layOffs_180 ?_
    refine cs_ild h (by decide) rfl hyp.1 (q := x4.toNatClampNeg) rfl dX9_layOffs_182 ?_
    have hyp := hyp.2
    refine cr_iload h rfl dX9_layOffs_183 ?_
    refine cr_isub h dX9_layOffs_185 ?_
    refine cr_aload_n h (j := 0) rfl rfl dX9_layOffs_186 ?_
    refine cr_getR h (k := 64) cr_clsX9 (by decide) rfl rfl wf_X9_149 (by decide) rfl rfl dX9_layOffs_187 ?_
    refine cr_iload_n h (j := 3) rfl rfl dX9_layOffs_190 ?_
    refine cs_ild h (by decide) rfl hyp.1 (q := x3.toNatClampNeg) rfl dX9_layOffs_191 ?_
    have hyp := hyp.2
    refine cr_icmp_ge h (tgt := 213) (by decide) dX9_layOffs_192 (fun c9 => ?_) (fun c9 => ?_)
    · have hyp := hyp.1 c9
      exact cr_weak [true, true, true, true, true, false] hyp
    · have hyp := hyp.2 c9
      refine cr_aload_n h (j := 0) rfl rfl dX9_layOffs_195 ?_
      refine cr_getR h (k := 64) cr_clsX9 (by decide) rfl rfl wf_X9_149 (by decide) rfl rfl dX9_layOffs_196 ?_
      refine cr_iload_n h (j := 3) rfl rfl dX9_layOffs_199 ?_
      refine cr_aload_n h (j := 0) rfl rfl dX9_layOffs_200 ?_
      refine cr_getR h (k := 64) cr_clsX9 (by decide) rfl rfl wf_X9_149 (by decide) rfl rfl dX9_layOffs_201 ?_
      refine cr_iload h rfl dX9_layOffs_204 ?_
      refine cs_ild h (by decide) rfl hyp.1 (q := x4.toNatClampNeg) rfl dX9_layOffs_206 ?_
      have hyp := hyp.2
      refine cr_iload h rfl dX9_layOffs_207 ?_
      refine cr_isub h dX9_layOffs_209 ?_
      refine cs_ist h (by decide) (by decide) rfl hyp.1 (q := x3.toNatClampNeg) rfl dX9_layOffs_210 (fun J4 eJ4 => ?_)
      have hyp := hyp.2 J4 eJ4
      refine cr_iconst h (v := (1 : Int32)) (by decide) dX9_layOffs_211 ?_
      refine cr_istore_n h (j := 1) rfl (by decide) rfl dX9_layOffs_212 ?_
      show cr_V Γ 213 [.ref 200, .int (1 : Int32), .int x2, .int x3, .int x4, .int x5] [] J4 (cr_rf τ) 247
      exact cr_weak [true, true, true, true, true, false] hyp
theorem bk_yX9_layOffs_213 {Γ : cr_G} {K : cr_K} {τ : Nat → Nat} {I : cr_I} {x1 : Int32} {x2 : Int32} {x3 : Int32} {x4 : Int32} (hτ : cr_tau τ)  (h : cr_Ok yX9_layOffs cX9_layOffs 6 (some .boolean) (cr_rm0 0 0) K 247 247 Γ) (hyp : (0 ≤ x4.toInt ∧ x4.toInt < 6) ∧ (0 ≤ x4.toInt ∧ x4.toInt < 6) ∧ ((I 227 x4.toNatClampNeg) < (I 245 x4.toNatClampNeg) → K (some (.int (0 : Int32))) I (cr_rf τ)) ∧ (¬ (I 227 x4.toNatClampNeg) < (I 245 x4.toNatClampNeg) → ((0 ≤ x3.toInt ∧ x3.toInt < 6) ∧ (0 ≤ x3.toInt ∧ x3.toInt < 6) ∧ ((-(I 227 x3.toNatClampNeg)) ≤ (I 246 x3.toNatClampNeg) → (∀ v5 : Int32, v5 = x2 + (1 : Int32) → cr_V Γ 49 [.ref 200, .int x1, .int v5, .null, .null, .null] [] I (cr_rf τ) 247)) ∧ (¬ (-(I 227 x3.toNatClampNeg)) ≤ (I 246 x3.toNatClampNeg) → K (some (.int (0 : Int32))) I (cr_rf τ))))) : cr_V Γ 213 [.ref 200, .int x1, .int x2, .int x3, .int x4, .null] [] I (cr_rf τ) 247 := by
  refine cr_aload_n h (j := 0) rfl rfl dX9_layOffs_213 ?_
  refine cr_getR h (k := 63) cr_clsX9 (by decide) rfl rfl wf_X9_146 (by decide) rfl rfl dX9_layOffs_214 ?_
  refine cr_iload h rfl dX9_layOffs_217 ?_
  refine cs_ild h (by decide) rfl hyp.1 (q := x4.toNatClampNeg) rfl dX9_layOffs_219 ?_
  have hyp := hyp.2
  refine cr_aload_n h (j := 0) rfl rfl dX9_layOffs_220 ?_
  refine cr_getR h (k := 36) cr_clsX9 (by decide) rfl rfl wf_X9_92 (by decide) rfl rfl dX9_layOffs_221 ?_
  refine cr_iload h rfl dX9_layOffs_224 ?_
  refine cs_ild h (by decide) rfl hyp.1 (q := x4.toNatClampNeg) rfl dX9_layOffs_226 ?_
  have hyp := hyp.2
  refine cr_icmp_gt h (tgt := 246) (by decide) dX9_layOffs_227 (fun c10 => ?_) (fun c10 => ?_)
  · have hyp := hyp.1 c10
    refine cr_iconst h (v := (0 : Int32)) (by decide) dX9_layOffs_246 ?_
    refine cr_iret h rfl (by decide) rfl dX9_layOffs_247 ?_
    exact hyp
  · have hyp := hyp.2 c10
    refine cr_aload_n h (j := 0) rfl rfl dX9_layOffs_230 ?_
    refine cr_getR h (k := 64) cr_clsX9 (by decide) rfl rfl wf_X9_149 (by decide) rfl rfl dX9_layOffs_231 ?_
    refine cr_iload_n h (j := 3) rfl rfl dX9_layOffs_234 ?_
    refine cs_ild h (by decide) rfl hyp.1 (q := x3.toNatClampNeg) rfl dX9_layOffs_235 ?_
    have hyp := hyp.2
    refine cr_aload_n h (j := 0) rfl rfl dX9_layOffs_236 ?_
    refine cr_getR h (k := 36) cr_clsX9 (by decide) rfl rfl wf_X9_92 (by decide) rfl rfl dX9_layOffs_237 ?_
    refine cr_iload_n h (j := 3) rfl rfl dX9_layOffs_240 ?_
    refine cs_ild h (by decide) rfl hyp.1 (q := x3.toNatClampNeg) rfl dX9_layOffs_241 ?_
    have hyp := hyp.2
    refine cr_ineg h dX9_layOffs_242 ?_
    refine cr_icmp_ge h (tgt := 248) (by decide) dX9_layOffs_243 (fun c11 => ?_) (fun c11 => ?_)
    · have hyp := hyp.1 c11
      refine cs_inc h (v := (1 : Int32)) 2 rfl (by decide) (by decide) rfl dX9_layOffs_248 (fun v5 ev5 => ?_)
      have hyp := hyp v5 ev5
      show cr_V Γ 251 [.ref 200, .int x1, .int v5, .int x3, .int x4, .null] [] I (cr_rf τ) 247
      refine cr_goto h (tgt := 49) (by decide) dX9_layOffs_251 ?_
      exact cr_weak [true, true, true, false, false, false] hyp
    · have hyp := hyp.2 c11
      refine cr_iconst h (v := (0 : Int32)) (by decide) dX9_layOffs_246 ?_
      refine cr_iret h rfl (by decide) rfl dX9_layOffs_247 ?_
      exact hyp
abbrev T_yX9_layOffs : cr_T := fun vs I R K => ∃ (τ : Nat → Nat), R = cr_rf τ ∧ cr_tau τ ∧ vs = [.ref 200] ∧ p_yX9_layOffs τ I ∧ ∀ (r : Int32) J, q_yX9_layOffs τ I r J → K (some (.int r)) J (cr_rf τ)
abbrev S_yX9_layOffs : Prop := cr_C yX9_layOffs cX9_layOffs 6 (some .boolean) (cr_rm0 0 0) 247 247 T_yX9_layOffs
theorem G_yX9_layOffs (H : ∀ (Γ : cr_G) (K : cr_K) (τ : Nat → Nat) (I : cr_I), cr_tau τ → cr_Ok yX9_layOffs cX9_layOffs 6 (some .boolean) (cr_rm0 0 0) K 247 247 Γ → p_yX9_layOffs τ I → (∀ (r : Int32) J, q_yX9_layOffs τ I r J → K (some (.int r)) J (cr_rf τ)) → cr_V Γ 0 [.ref 200, .null, .null, .null, .null, .null] [] I (cr_rf τ) 247) : cr_C yX9_layOffs cX9_layOffs 6 (some .boolean) (cr_rm0 0 0) 247 247 T_yX9_layOffs := by
  refine cr_C.of (by decide +kernel) (fun vs I R K hT => ?_) (fun Γ K h vs I R hT => ?_)
  · obtain ⟨τ, rfl, hτ, rfl, hp, hK⟩ := hT
    exact Nat.le_of_ble_eq_true rfl
  · obtain ⟨τ, rfl, hτ, rfl, hp, hK⟩ := hT
    exact H Γ K τ I hτ h hp hK
def cr_s6 (g : Nat → Int) : Int := g 0 + g 1 + g 2 + g 3 + g 4 + g 5
theorem cr_s6_lt {g g' : Nat → Int} {b : Nat} (hb : b < 6) (h : ∀ c, c < 6 → g' c ≤ g c) (hs : g' b < g b) : cr_s6 g' < cr_s6 g := by
  have h0 := h 0 (by omega)
  have h1 := h 1 (by omega)
  have h2 := h 2 (by omega)
  have h3 := h 3 (by omega)
  have h4 := h 4 (by omega)
  have h5 := h 5 (by omega)
  unfold cr_s6
  rcases (show b = 0 ∨ b = 1 ∨ b = 2 ∨ b = 3 ∨ b = 4 ∨ b = 5 by omega) with rfl | rfl | rfl | rfl | rfl | rfl <;> omega
/-- while the reference narrows: nothing that obeys is lost, all within the offs but the places L, H -/
def cr_oi (I J : cr_I) (L H : Nat) : Prop := cr_fr 245 246 I J ∧ (∀ c, c < 6 → (-(cr_moffs I c) ≤ cr_lo J c ∧ (c ≠ L → cr_lo J c ≤ cr_moffs I c) ∧ cr_lo J c ≤ 2000) ∧ (cr_hi J c ≤ cr_moffs I c ∧ (c ≠ H → -(cr_moffs I c) ≤ cr_hi J c) ∧ -2000 ≤ cr_hi J c)) ∧ ∀ x, cr_mfe I x → ∀ c, c < 6 → cr_lo J c ≤ x c ∧ x c ≤ cr_hi J c
def cr_mu (J : cr_I) : Int := cr_s6 (fun c => cr_hi J c - cr_lo J c)
/-- the after k is heeded -/
def cr_ok1 (I J : cr_I) (k : Nat) : Prop := cr_lo J (cr_mka I k) + cr_mkw I k ≤ cr_lo J (cr_mkb I k) ∧ cr_hi J (cr_mka I k) + cr_mkw I k ≤ cr_hi J (cr_mkb I k)
/-- within a pass that began at J0 -/
def cr_pg (I J0 J : cr_I) (m : Int32) (k : Nat) : Prop := (m = 0 ∧ (∀ c, c < 6 → cr_lo J c = cr_lo J0 c ∧ cr_hi J c = cr_hi J0 c) ∧ ∀ j, j < k → cr_ok1 I J j) ∨ (m = 1 ∧ cr_mu J < cr_mu J0)
theorem C_yX9_layOffs : cr_C yX9_layOffs cX9_layOffs 6 (some .boolean) (cr_rm0 0 0) 247 247 T_yX9_layOffs := G_yX9_layOffs (by
  intro Γ K τ I hτ h hp hK
  obtain ⟨w1, w2, w3, w4⟩ := hp
  obtain ⟨eN, hN⟩ := cr_ofI (B := 12) w4.1 w4.2
  have hab : ∀ k, k < 12 → cr_mka I k < 6 ∧ cr_mkb I k < 6 ∧ -1098 ≤ -(cr_mkw I k) ∧ -(cr_mkw I k) ≤ 999 := fun k hk => by
    obtain ⟨o1, o2, o3⟩ := w3 k hk
    have n1 := cr_cn (N := 12) o1
    have n2 := cr_cn (N := 12) o2
    have c1 := w2 _ n1
    have c2 := w2 _ n2
    refine ⟨cr_cn (N := 6) c1.1, cr_cn (N := 6) c2.1, ?_, ?_⟩ <;> unfold cr_mkw <;> omega
  have hoff : ∀ c, c < 6 → 0 ≤ cr_moffs I c ∧ cr_moffs I c ≤ 60 := w1
  generalize hA : (I 200 43).toNatClampNeg = A at *
  have hfe : ∀ x, cr_mfe I x ↔ fw_fe (cr_moffs I) A (cr_mka I) (cr_mkb I) (cr_mkw I) x := fun x => by unfold cr_mfe; rw [hA]
  -- the passes
  have outer : ∀ (n : Nat) (J : cr_I), cr_oi I J 9 9 → cr_mu J + 1000 < n → cr_V Γ 41 [.ref 200, .int (1 : Int32), .null, .null, .null, .null] [] J (cr_rf τ) 247 := by
    intro n
    induction n with
    | zero =>
      intro J hJ hn
      exfalso
      have g : ∀ c, c < 6 → -120 ≤ cr_hi J c - cr_lo J c := fun c hc => by
        have := hJ.2.1 c hc
        have := hoff c hc
        have := this.2
        have q1 := (hJ.2.1 c hc).1.2.1 (by omega)
        have q2 := (hJ.2.1 c hc).2.2.1 (by omega)
        omega
      have g0 := g 0 (by omega)
      have g1 := g 1 (by omega)
      have g2 := g 2 (by omega)
      have g3 := g 3 (by omega)
      have g4 := g 4 (by omega)
      have g5 := g 5 (by omega)
      unfold cr_mu cr_s6 at hn
      dsimp only at hn
      omega
    | succ n ihn =>
      intro J0 hJ0 hn
      refine bk_yX9_layOffs_41 hτ h ⟨fun c => absurd c (by decide), fun _ => ?_⟩
      refine cr_loop (fun k => ∀ (J : cr_I) (m : Int32), cr_oi I J 9 9 → cr_pg I J0 J m k → cr_V Γ 49 [.ref 200, .int m, .int (nI k), .null, .null, .null] [] J (cr_rf τ) 247) A ?_ ?_ 0 (Nat.zero_le _) J0 0 hJ0 (Or.inl ⟨rfl, fun c _ => ⟨rfl, rfl⟩, fun j hj => absurd hj (Nat.not_lt_zero _)⟩)
      · intro J m hJ hm
        refine bk_yX9_layOffs_49 hτ h ⟨fun _ => ?_, fun c => absurd ?_ c⟩
        · rcases hm with ⟨rfl, he, hk⟩ | ⟨rfl, hmu⟩
          · refine bk_yX9_layOffs_41 hτ h ⟨fun _ => hK 1 J ⟨hJ.1, Or.inl ⟨rfl, ⟨?_, ?_⟩, ?_, ?_⟩⟩, fun c => absurd rfl c⟩
            · rw [hfe]
              refine ⟨fun c hc => ?_, fun k hk2 => (hk k hk2).1⟩
              have := (hJ.2.1 c hc).1
              exact ⟨this.1, this.2.1 (by omega)⟩
            · intro x hx c hc
              exact (hJ.2.2 x hx c hc).1
            · rw [hfe]
              refine ⟨fun c hc => ?_, fun k hk2 => (hk k hk2).2⟩
              have := (hJ.2.1 c hc).2
              exact ⟨this.2.1 (by omega), this.1⟩
            · intro x hx c hc
              exact (hJ.2.2 x hx c hc).2
          · exact ihn J hJ (by omega)
        · rw [hJ.1 200 43 (by omega), ← eN]; exact Int32.le_refl _
      · intro k hk ihk J m hJ hm
        have hk12 : k < 12 := by omega
        have hxk : (0 : Int) ≤ (nI k).toInt ∧ (nI k).toInt < 12 := cr_ix (by omega) (by omega)
        obtain ⟨o1, o2, o3⟩ := w3 k hk12
        have n1 := cr_cn (N := 12) o1
        have n2 := cr_cn (N := 12) o2
        have c1 := w2 _ n1
        have c2 := w2 _ n2
        obtain ⟨hak, hbk, hw1, hw2⟩ := hab k hk12
        have fr := hJ.1
        refine bk_yX9_layOffs_49 hτ h ⟨fun c => absurd c ?_, fun _ => ?_⟩
        · rw [fr 200 43 (by omega), eN]; exact cr_nle hk (by omega)
        · rw [cr_nc (by omega), fr 230 k (by omega), fr 231 k (by omega), fr 232 k (by omega), fr 228 _ (by omega), fr 228 _ (by omega), fr 229 _ (by omega), fr 229 _ (by omega)]
          refine ⟨hxk, o1, ?_⟩
          intro va ea
          refine ⟨hxk, o2, ?_⟩
          intro vb eb
          refine ⟨hxk, hxk, o2, hxk, o1, ?_⟩
          intro vw ew
          have ha6 : (0 : Int) ≤ va.toInt ∧ va.toInt < 6 := by rw [ea]; exact c1.1
          have hb6 : (0 : Int) ≤ vb.toInt ∧ vb.toInt < 6 := by rw [eb]; exact c2.1
          have ena : va.toNatClampNeg = cr_mka I k := by rw [ea]; rfl
          have enb : vb.toNatClampNeg = cr_mkb I k := by rw [eb]; rfl
          have enw : vw.toInt = cr_mkw I k := by
            rw [ew, cr_add (by rw [cr_sub (by omega)]; omega), cr_sub (by omega)]
            rfl
          have hab0 : va = vb ↔ cr_mka I k = cr_mkb I k := by
            rw [← ena, ← enb, ← Int32.toInt_inj]
            show _ ↔ va.toInt.toNat = vb.toInt.toNat
            omega
          -- the fourth test
          have t4 : ∀ (J : cr_I) (m : Int32), cr_oi I J (cr_mkb I k) (cr_mka I k) → ((cr_oi I J 9 9) → cr_pg I J0 J m (k + 1)) → cr_V Γ 213 [.ref 200, .int m, .int (nI k), .int va, .int vb, .null] [] J (cr_rf τ) 247 := by
            intro J m hJ hm
            refine bk_yX9_layOffs_213 hτ h ⟨hb6, hb6, fun c => ?_, fun c => ⟨ha6, ha6, fun d => ?_, fun d => ?_⟩⟩
            · rw [enb, hJ.1 227 _ (by omega), cr_lt] at c
              refine hK 0 J ⟨hJ.1, Or.inr ⟨rfl, fun x hx => ?_⟩⟩
              have q1 := (hJ.2.2 x hx _ hbk).1
              have q2 := (((hfe x).mp hx).1 _ hbk).2
              unfold cr_lo at q1
              unfold cr_moffs at q2
              omega
            · rw [enb, hJ.1 227 _ (by omega), cr_lt] at c
              rw [ena, hJ.1 227 _ (by omega), cr_le, cr_neg (by have := hoff _ hak; unfold cr_moffs at this; omega)] at d
              rintro v rfl
              rw [nI_1]
              have hJ9 : cr_oi I J 9 9 := by
                refine ⟨hJ.1, fun z hz => ?_, hJ.2.2⟩
                obtain ⟨⟨p1, p2, p3⟩, p4, p5, p6⟩ := hJ.2.1 z hz
                refine ⟨⟨p1, fun _ => ?_, p3⟩, p4, fun _ => ?_, p6⟩
                · by_cases q : z = cr_mkb I k
                  · rw [q]; unfold cr_lo cr_moffs; omega
                  · exact p2 q
                · by_cases q : z = cr_mka I k
                  · rw [q]; unfold cr_hi cr_moffs; omega
                  · exact p5 q
              exact ihk J m hJ9 (hm hJ9)
            · rw [ena, hJ.1 227 _ (by omega), cr_le, cr_neg (by have := hoff _ hak; unfold cr_moffs at this; omega)] at d
              refine hK 0 J ⟨hJ.1, Or.inr ⟨rfl, fun x hx => ?_⟩⟩
              have q1 := (hJ.2.2 x hx _ hak).2
              have q2 := (((hfe x).mp hx).1 _ hak).1
              unfold cr_hi at q1
              unfold cr_moffs at q2
              omega
          -- the third test
          have t3 : ∀ (J : cr_I) (m : Int32), cr_oi I J (cr_mkb I k) 9 → (cr_mka I k ≠ cr_mkb I k ∨ cr_mkw I k ≤ 0) → (cr_lo J (cr_mka I k) + cr_mkw I k ≤ cr_lo J (cr_mkb I k)) → cr_pg I J0 J m k → cr_V Γ 170 [.ref 200, .int m, .int (nI k), .int va, .int vb, .int vw] [] J (cr_rf τ) 247 := by
            intro J m hJ hne hlo hm
            have sub : cr_oi I J (cr_mkb I k) (cr_mka I k) := ⟨hJ.1, fun z hz => by
              obtain ⟨p1, p4, p5, p6⟩ := hJ.2.1 z hz
              exact ⟨p1, p4, fun _ => p5 (by omega), p6⟩, hJ.2.2⟩
            have same : cr_hi J (cr_mka I k) + cr_mkw I k ≤ cr_hi J (cr_mkb I k) → cr_pg I J0 J m (k + 1) := by
              intro q
              rcases hm with ⟨m0, he, hj⟩ | hm
              · refine Or.inl ⟨m0, he, fun j hj2 => ?_⟩
                by_cases e : j = k
                · rw [e]; exact ⟨hlo, q⟩
                · exact hj j (by omega)
              · exact Or.inr hm
            refine bk_yX9_layOffs_170 hτ h ⟨fun c => ?_, fun c => ⟨hb6, ha6, fun d => ?_, fun d => ⟨hb6, ha6, ?_⟩⟩⟩
            · refine t4 J m sub (fun _ => same ?_)
              have e := hab0.mp c
              rw [e]
              rcases hne with q | q
              · exact absurd e q
              · omega
            · rw [ena, enb, cr_le, cr_sub (by rw [enw]; have := hJ.2.1 _ hbk; have := hoff _ hbk; unfold cr_hi at *; omega), enw] at d
              exact t4 J m sub (fun _ => same (by unfold cr_hi; omega))
            · have eqv : (J 246 vb.toNatClampNeg - vw).toInt = cr_hi J (cr_mkb I k) - cr_mkw I k := by
                rw [enb, cr_sub (by rw [enw]; have := hJ.2.1 _ hbk; have := hoff _ hbk; unfold cr_hi at *; omega), enw]
                rfl
              rw [cr_le, eqv, ena] at d
              rintro J4 e4
              rw [ena] at e4
              have hlo4 : ∀ c, cr_lo J4 c = cr_lo J c := fun c => by
                unfold cr_lo
                rw [e4, cr_up_b (by omega)]
              have hhi4 : ∀ c, c ≠ cr_mka I k → cr_hi J4 c = cr_hi J c := fun c hc => by
                unfold cr_hi
                rw [e4, cr_up_k hc]
              have hhia : cr_hi J4 (cr_mka I k) = cr_hi J (cr_mkb I k) - cr_mkw I k := by
                unfold cr_hi
                rw [e4, cr_up_s, eqv]
                rfl
              have hlt : cr_hi J4 (cr_mka I k) < cr_hi J (cr_mka I k) := by
                rw [hhia]
                unfold cr_hi at d ⊢
                omega
              refine t4 J4 1 ⟨by rw [e4]; exact hJ.1.up (by omega) (by omega), fun z hz => ?_, fun x hx z hz => ?_⟩ (fun _ => Or.inr ⟨rfl, ?_⟩)
              · obtain ⟨⟨p1, p2, p3⟩, p4, p5, p6⟩ := hJ.2.1 z hz
                rw [hlo4]
                refine ⟨⟨p1, p2, p3⟩, ?_⟩
                by_cases q : z = cr_mka I k
                · rw [q] at p4 ⊢
                  have := hJ.2.1 _ hbk
                  have := hoff _ hbk
                  exact ⟨by omega, fun z => absurd rfl z, by
                    have r1 := this
                    have r2 := (hJ.2.1 _ hbk).2.2.1 (by omega)
                    rw [hhia]
                    omega⟩
                · rw [hhi4 z q]
                  exact ⟨p4, fun _ => p5 (by omega), p6⟩
              · have q0 := hJ.2.2 x hx z hz
                rw [hlo4]
                refine ⟨q0.1, ?_⟩
                by_cases q : z = cr_mka I k
                · rw [q, hhia]
                  have q1 := (hJ.2.2 x hx _ hbk).2
                  have q2 := ((hfe x).mp hx).2 k hk
                  omega
                · rw [hhi4 z q]; exact q0.2
              · have hmu4 : cr_mu J4 < cr_mu J := by
                  refine cr_s6_lt hak (fun z hz => ?_) ?_
                  · rw [hlo4]
                    by_cases q : z = cr_mka I k
                    · rw [q]; omega
                    · rw [hhi4 z q]; exact Int.le_refl _
                  · rw [hlo4]
                    omega
                rcases hm with ⟨-, he, -⟩ | ⟨-, hm⟩
                · have : cr_mu J = cr_mu J0 := by
                    unfold cr_mu cr_s6
                    simp only [(he 0 (by omega)).1, (he 0 (by omega)).2, (he 1 (by omega)).1, (he 1 (by omega)).2, (he 2 (by omega)).1, (he 2 (by omega)).2, (he 3 (by omega)).1, (he 3 (by omega)).2, (he 4 (by omega)).1, (he 4 (by omega)).2, (he 5 (by omega)).1, (he 5 (by omega)).2]
                  omega
                · omega
          -- the second test
          have t2 : (cr_mka I k ≠ cr_mkb I k ∨ cr_mkw I k ≤ 0) → cr_V Γ 127 [.ref 200, .int m, .int (nI k), .int va, .int vb, .int vw] [] J (cr_rf τ) 247 := by
            intro hne
            have sub : cr_oi I J (cr_mkb I k) 9 := ⟨hJ.1, fun z hz => by
              obtain ⟨⟨p1, p2, p3⟩, p4⟩ := hJ.2.1 z hz
              exact ⟨⟨p1, fun _ => p2 (by omega), p3⟩, p4⟩, hJ.2.2⟩
            have rng := hJ.2.1 _ hak
            have offa := hoff _ hak
            have hla := (hJ.2.1 _ hak).1.2.1 (by omega)
            have eqv : (J 245 va.toNatClampNeg + vw).toInt = cr_lo J (cr_mka I k) + cr_mkw I k := by
              rw [ena, cr_add (by rw [enw]; unfold cr_lo at *; omega), enw]
              rfl
            refine bk_yX9_layOffs_127 hτ h ⟨fun c => ?_, fun c => ⟨ha6, hb6, fun d => ?_, fun d => ⟨ha6, hb6, ?_⟩⟩⟩
            · refine t3 J m sub hne ?_ hm
              have e := hab0.mp c
              rw [e]
              rcases hne with q | q
              · exact absurd e q
              · omega
            · rw [cr_le, eqv, enb] at d
              exact t3 J m sub hne d hm
            · rw [cr_le, eqv, enb] at d
              rintro J3 e3
              rw [enb] at e3
              have hhi3 : ∀ c, cr_hi J3 c = cr_hi J c := fun c => by
                unfold cr_hi
                rw [e3, cr_up_b (by omega)]
              have hlo3 : ∀ c, c ≠ cr_mkb I k → cr_lo J3 c = cr_lo J c := fun c hc => by
                unfold cr_lo
                rw [e3, cr_up_k hc]
              have hlob : cr_lo J3 (cr_mkb I k) = cr_lo J (cr_mka I k) + cr_mkw I k := by
                unfold cr_lo
                rw [e3, cr_up_s, eqv]
                rfl
              have hne2 : cr_mka I k ≠ cr_mkb I k := fun q => c (hab0.mpr q)
              have hgt : cr_lo J (cr_mkb I k) < cr_lo J3 (cr_mkb I k) := by
                rw [hlob]
                unfold cr_lo at d ⊢
                omega
              refine t3 J3 1 ⟨by rw [e3]; exact hJ.1.up (by omega) (by omega), fun z hz => ?_, fun x hx z hz => ?_⟩ hne ?_ (Or.inr ⟨rfl, ?_⟩)
              · obtain ⟨⟨p1, p2, p3⟩, p4⟩ := hJ.2.1 z hz
                rw [hhi3]
                refine ⟨?_, p4⟩
                by_cases q : z = cr_mkb I k
                · rw [q] at p1 ⊢
                  exact ⟨by omega, fun z => absurd rfl z, by rw [hlob]; omega⟩
                · rw [hlo3 z q]
                  exact ⟨p1, fun _ => p2 (by omega), p3⟩
              · have q0 := hJ.2.2 x hx z hz
                rw [hhi3]
                refine ⟨?_, q0.2⟩
                by_cases q : z = cr_mkb I k
                · rw [q, hlob]
                  have q1 := (hJ.2.2 x hx _ hak).1
                  have q2 := ((hfe x).mp hx).2 k hk
                  omega
                · rw [hlo3 z q]; exact q0.1
              · rw [hlo3 _ hne2, hlob]; exact Int.le_refl _
              · have hmu3 : cr_mu J3 < cr_mu J := by
                  refine cr_s6_lt hbk (fun z hz => ?_) ?_
                  · rw [hhi3]
                    by_cases q : z = cr_mkb I k
                    · rw [q]; omega
                    · rw [hlo3 z q]; exact Int.le_refl _
                  · rw [hhi3]
                    omega
                rcases hm with ⟨-, he, -⟩ | ⟨-, hm⟩
                · have : cr_mu J = cr_mu J0 := by
                    unfold cr_mu cr_s6
                    simp only [(he 0 (by omega)).1, (he 0 (by omega)).2, (he 1 (by omega)).1, (he 1 (by omega)).2, (he 2 (by omega)).1, (he 2 (by omega)).2, (he 3 (by omega)).1, (he 3 (by omega)).2, (he 4 (by omega)).1, (he 4 (by omega)).2, (he 5 (by omega)).1, (he 5 (by omega)).2]
                  omega
                · omega
          refine ⟨fun c => t2 (Or.inl (fun q => c (hab0.mpr q))), fun c => ⟨fun d => t2 (Or.inr ?_), fun d => ?_⟩⟩
          · rw [cr_le, enw] at d
            exact d
          · refine hK 0 J ⟨hJ.1, Or.inr ⟨rfl, fun x hx => ?_⟩⟩
            have q2 := ((hfe x).mp hx).2 k hk
            rw [hab0.mp c] at q2
            rw [cr_le, enw] at d
            have : (0 : Int32).toInt = 0 := rfl
            omega
  -- the start
  refine bk_yX9_layOffs_0 hτ h ?_
  refine cr_loop (fun i => ∀ J, cr_fr 245 246 I J → (∀ c, c < i → cr_lo J c = -(cr_moffs I c) ∧ cr_hi J c = cr_moffs I c) → cr_V Γ 2 [.ref 200, .int (nI i), .null, .null, .null, .null] [] J (cr_rf τ) 247) 6 ?_ ?_ 0 (Nat.zero_le _) I cr_fr.rf (fun c hc => absurd hc (Nat.not_lt_zero _))
  · intro J hf hm
    refine bk_yX9_layOffs_2 hτ h ⟨fun _ => ?_, fun c => absurd (by decide) c⟩
    have hoi : cr_oi I J 9 9 := by
      refine ⟨hf, fun c hc => ?_, fun x hx c hc => ?_⟩
      · have := hm c hc
        have := hoff c hc
        refine ⟨⟨by omega, fun _ => by omega, by omega⟩, by omega, fun _ => by omega, by omega⟩
      · have := hm c hc
        have := ((hfe x).mp hx).1 c hc
        omega
    exact outer ((cr_mu J + 1000).toNat + 1) J hoi (by omega)
  · intro i hi ih J hf hm
    have hxi : (0 : Int) ≤ (nI i).toInt ∧ (nI i).toInt < 6 := cr_ix (by omega) (by omega)
    refine bk_yX9_layOffs_2 hτ h ⟨fun c => absurd c (cr_nle hi (by decide)), fun _ => ⟨hxi, hxi, ?_⟩⟩
    rw [cr_nc (by omega), hf 227 i (by omega)]
    rintro J1 e1
    refine ⟨hxi, hxi, ?_⟩
    have hf1 : cr_fr 245 246 I J1 := by rw [e1]; exact hf.up (by omega) (by omega)
    rw [hf1 227 i (by omega)]
    rintro J2 rfl v rfl
    rw [nI_1]
    refine ih _ (hf1.up (by omega) (by omega)) (fun c hc => ?_)
    have oi := hoff i hi
    by_cases q : c = i
    · rw [q]
      unfold cr_lo cr_hi cr_moffs
      unfold cr_moffs at oi
      rw [cr_up_s, cr_up_b (by omega), e1, cr_up_s, cr_neg (by omega)]
      exact ⟨rfl, rfl⟩
    · have := hm c (by omega)
      unfold cr_lo cr_hi at this ⊢
      have a1 : ∀ w, cr_up J1 246 i w 245 c = J 245 c := fun w => by rw [cr_up_b (by omega), e1, cr_up_k q]
      have a2 : ∀ w, cr_up J1 246 i w 246 c = J 246 c := fun w => by rw [cr_up_k q, e1, cr_up_b (by omega)]
      rw [a1, a2]
      exact this)
def t_yX9_agree (τ : Nat → Nat) (I : cr_I) (Q : Int32 → cr_I → Prop) : Prop := p_yX9_layOffs τ I ∧ (∀ (r1 : Int32) (J1 : cr_I), q_yX9_layOffs τ I r1 J1 → ((r1 = 0 → Q (0 : Int32) J1) ∧ (¬ r1 = 0 → Q (1 : Int32) J1)))
abbrev T_yX9_agree : cr_T := fun vs I R K => ∃ (τ : Nat → Nat) (Q : Int32 → cr_I → Prop), R = cr_rf τ ∧ cr_tau τ ∧ vs = [.ref 200] ∧ t_yX9_agree τ I Q ∧ ∀ r J, Q r J → K (some (.int r)) J (cr_rf τ)
theorem C_yX9_agree : cr_C yX9_agree cX9_agree 1 (some .int) (cr_rm0 1 25) 247 247 T_yX9_agree := by
  refine cr_C.of (by decide +kernel) (fun vs I R K hT => ?_) (fun Γ K h vs I R hT => ?_)
  · obtain ⟨τ, Q, rfl, hτ, rfl, hyp, hK⟩ := hT
    exact Nat.le_of_ble_eq_true rfl
  · obtain ⟨τ, Q, rfl, hτ, rfl, hyp, hK⟩ := hT
    unfold t_yX9_agree at hyp
    show cr_V Γ 0 [.ref 200] [] I (cr_rf τ) 247
    refine cr_aload_n h (j := 0) rfl rfl dX9_agree_0 ?_
    refine cr_callV h (c0 := 9) (T0 := TX9) C_yX9_layOffs cZ_yX9_layOffs wm_X9_389 wv_yX9_layOffs we_yX9_layOffs (by decide) rfl rfl (cr_rmS (by decide) (by decide)) (As := []) rfl (Nat.le_of_ble_eq_true rfl) dX9_agree_1 ⟨τ, rfl, hτ, rfl, hyp.1, fun r1 J1 q1 => ?_⟩
    have hyp := hyp.2 r1 J1 q1
    show cr_V Γ 4 [.ref 200] [.int r1] J1 (cr_rf τ) 247
    refine cr_if_eq h (tgt := 11) (by decide) dX9_agree_4 (fun c1 => ?_) (fun c1 => ?_)
    · have hyp := hyp.1 c1
      refine cr_iconst h (v := (0 : Int32)) (by decide) dX9_agree_11 ?_
      refine cr_iret h rfl rfl rfl dX9_agree_12 ?_
      exact hK _ _ hyp
    · have hyp := hyp.2 c1
      refine cr_iconst h (v := (1 : Int32)) (by decide) dX9_agree_7 ?_
      refine cr_goto h (tgt := 12) (by decide) dX9_agree_8 ?_
      refine cr_iret h rfl rfl rfl dX9_agree_12 ?_
      exact hK _ _ hyp
def t_yX9_span (τ : Nat → Nat) (x1 : Int32) (x2 : Int32) (I : cr_I) (Q : Int32 → cr_I → Prop) : Prop := ((f_yX9_isEvent τ x1 I) = 0 → Q (-2147483648 : Int32) I) ∧ (¬ (f_yX9_isEvent τ x1 I) = 0 → (((f_yX9_in τ x2.toInt64 (0 : Int64) (1 : Int64) I) = 0 → Q (-2147483648 : Int32) I) ∧ (¬ (f_yX9_in τ x2.toInt64 (0 : Int64) (1 : Int64) I) = 0 → (p_yX9_layOffs τ I ∧ (∀ (r1 : Int32) (J1 : cr_I), q_yX9_layOffs τ I r1 J1 → ((¬ r1 = 0 → ((0 ≤ x1.toInt ∧ x1.toInt < 12) ∧ (¬ x2 = 0 → ((0 ≤ x1.toInt ∧ x1.toInt < 12) ∧ ((0 ≤ (J1 228 x1.toNatClampNeg).toInt ∧ (J1 228 x1.toNatClampNeg).toInt < 6) ∧ True))) ∧ (x2 = 0 → ((0 ≤ x1.toInt ∧ x1.toInt < 12) ∧ ((0 ≤ (J1 228 x1.toNatClampNeg).toInt ∧ (J1 228 x1.toNatClampNeg).toInt < 6) ∧ True))) ∧ (Q ((J1 229 x1.toNatClampNeg) + (if x2 = 0 then (J1 245 (J1 228 x1.toNatClampNeg).toNatClampNeg) else (J1 246 (J1 228 x1.toNatClampNeg).toNatClampNeg))) J1))) ∧ (r1 = 0 → Q (-2147483648 : Int32) J1)))))))
abbrev T_yX9_span : cr_T := fun vs I R K => ∃ (τ : Nat → Nat) (x1 : Int32) (x2 : Int32) (Q : Int32 → cr_I → Prop), R = cr_rf τ ∧ cr_tau τ ∧ vs = [.ref 200, .int x1, .int x2] ∧ t_yX9_span τ x1 x2 I Q ∧ ∀ r J, Q r J → K (some (.int r)) J (cr_rf τ)
theorem C_yX9_span : cr_C yX9_span cX9_span 3 (some .int) (cr_rm0 2 46) 247 247 T_yX9_span := by
  refine cr_C.of (by decide +kernel) (fun vs I R K hT => ?_) (fun Γ K h vs I R hT => ?_)
  · obtain ⟨τ, x1, x2, Q, rfl, hτ, rfl, hyp, hK⟩ := hT
    exact Nat.le_of_ble_eq_true rfl
  · obtain ⟨τ, x1, x2, Q, rfl, hτ, rfl, hyp, hK⟩ := hT
    unfold t_yX9_span at hyp
    show cr_V Γ 0 [.ref 200, .int x1, .int x2] [] I (cr_rf τ) 247
    refine cr_aload_n h (j := 0) rfl rfl dX9_span_0 ?_
    refine cr_iload_n h (j := 1) rfl rfl dX9_span_1 ?_
    refine cr_callV h (c0 := 9) (T0 := TX9) C_yX9_isEvent cZ_yX9_isEvent wm_X9_383 wv_yX9_isEvent we_yX9_isEvent (by decide) rfl rfl (cr_rmS (by decide) (by decide)) (As := [.int x1]) rfl (Nat.le_of_ble_eq_true rfl) dX9_span_2 ⟨τ, x1, rfl, hτ, rfl, ?_⟩
    show cr_V Γ 5 [.ref 200, .int x1, .int x2] [.int (f_yX9_isEvent τ x1 I)] I (cr_rf τ) 247
    refine cr_if_eq h (tgt := 25) (by decide) dX9_span_5 (fun c1 => ?_) (fun c1 => ?_)
    · have hyp := hyp.1 c1
      refine cr_ldcw h wc_X9_318 dX9_span_25 ?_
      refine cr_iret h rfl rfl rfl dX9_span_28 ?_
      exact hK _ _ hyp
    · have hyp := hyp.2 c1
      refine cr_iload_n h (j := 2) rfl rfl dX9_span_8 ?_
      refine cr_i2l h dX9_span_9 ?_
      refine cr_lconst h (v := (0 : Int64)) (by decide) dX9_span_10 ?_
      refine cr_lconst h (v := (1 : Int64)) (by decide) dX9_span_11 ?_
      refine cr_callS h C_yX9_in cZ_yX9_in wm_X9_154 ws_yX9_in (cr_rmS (by decide) (by decide)) (As := [.long x2.toInt64, .long (0 : Int64), .long (1 : Int64)]) rfl (Nat.le_of_ble_eq_true rfl) dX9_span_12 ⟨τ, x2.toInt64, (0 : Int64), (1 : Int64), rfl, hτ, rfl, ?_⟩
      show cr_V Γ 15 [.ref 200, .int x1, .int x2] [.int (f_yX9_in τ x2.toInt64 (0 : Int64) (1 : Int64) I)] I (cr_rf τ) 247
      refine cr_if_eq h (tgt := 25) (by decide) dX9_span_15 (fun c2 => ?_) (fun c2 => ?_)
      · have hyp := hyp.1 c2
        refine cr_ldcw h wc_X9_318 dX9_span_25 ?_
        refine cr_iret h rfl rfl rfl dX9_span_28 ?_
        exact hK _ _ hyp
      · have hyp := hyp.2 c2
        refine cr_aload_n h (j := 0) rfl rfl dX9_span_18 ?_
        refine cr_callV h (c0 := 9) (T0 := TX9) C_yX9_layOffs cZ_yX9_layOffs wm_X9_389 wv_yX9_layOffs we_yX9_layOffs (by decide) rfl rfl (cr_rmS (by decide) (by decide)) (As := []) rfl (Nat.le_of_ble_eq_true rfl) dX9_span_19 ⟨τ, rfl, hτ, rfl, hyp.1, fun r1 J1 q1 => ?_⟩
        have hyp := hyp.2 r1 J1 q1
        show cr_V Γ 22 [.ref 200, .int x1, .int x2] [.int r1] J1 (cr_rf τ) 247
        refine cr_if_ne h (tgt := 29) (by decide) dX9_span_22 (fun c3 => ?_) (fun c3 => ?_)
        · have hyp := hyp.1 c3
          refine cr_aload_n h (j := 0) rfl rfl dX9_span_29 ?_
          refine cr_getR h (k := 38) cr_clsX9 (by decide) rfl rfl wf_X9_98 (by decide) rfl rfl dX9_span_30 ?_
          refine cr_iload_n h (j := 1) rfl rfl dX9_span_33 ?_
          refine cs_ild h (by decide) rfl hyp.1 (q := x1.toNatClampNeg) rfl dX9_span_34 ?_
          have hyp := hyp.2
          refine cr_iload_n h (j := 2) rfl rfl dX9_span_35 ?_
          have hsJ2 := hyp.1
          have htJ2 := hyp.2.1
          have hyp := hyp.2.2
          have J2 : cr_V Γ 64 [.ref 200, .int x1, .int x2] [.int (if x2 = 0 then (J1 245 (J1 228 x1.toNatClampNeg).toNatClampNeg) else (J1 246 (J1 228 x1.toNatClampNeg).toNatClampNeg)), .int (J1 229 x1.toNatClampNeg)] J1 (cr_rf τ) 247 := by
            refine cr_iadd h dX9_span_64 ?_
            refine cr_iret h rfl rfl rfl dX9_span_65 ?_
            exact hK _ _ hyp
          refine cr_if_ne h (tgt := 53) (by decide) dX9_span_36 (fun c4 => ?_) (fun c4 => ?_)
          · have hyp := hsJ2 c4
            refine cr_aload_n h (j := 0) rfl rfl dX9_span_53 ?_
            refine cr_getR h (k := 64) cr_clsX9 (by decide) rfl rfl wf_X9_149 (by decide) rfl rfl dX9_span_54 ?_
            refine cr_aload_n h (j := 0) rfl rfl dX9_span_57 ?_
            refine cr_getR h (k := 37) cr_clsX9 (by decide) rfl rfl wf_X9_95 (by decide) rfl rfl dX9_span_58 ?_
            refine cr_iload_n h (j := 1) rfl rfl dX9_span_61 ?_
            refine cs_ild h (by decide) rfl hyp.1 (q := x1.toNatClampNeg) rfl dX9_span_62 ?_
            have hyp := hyp.2
            refine cs_ild h (by decide) rfl hyp.1 (q := (J1 228 x1.toNatClampNeg).toNatClampNeg) rfl dX9_span_63 ?_
            have hyp := hyp.2
            exact cr_ite (by rw [if_neg c4]) J2
          · have hyp := htJ2 c4
            refine cr_aload_n h (j := 0) rfl rfl dX9_span_39 ?_
            refine cr_getR h (k := 63) cr_clsX9 (by decide) rfl rfl wf_X9_146 (by decide) rfl rfl dX9_span_40 ?_
            refine cr_aload_n h (j := 0) rfl rfl dX9_span_43 ?_
            refine cr_getR h (k := 37) cr_clsX9 (by decide) rfl rfl wf_X9_95 (by decide) rfl rfl dX9_span_44 ?_
            refine cr_iload_n h (j := 1) rfl rfl dX9_span_47 ?_
            refine cs_ild h (by decide) rfl hyp.1 (q := x1.toNatClampNeg) rfl dX9_span_48 ?_
            have hyp := hyp.2
            refine cs_ild h (by decide) rfl hyp.1 (q := (J1 228 x1.toNatClampNeg).toNatClampNeg) rfl dX9_span_49 ?_
            have hyp := hyp.2
            refine cr_goto h (tgt := 64) (by decide) dX9_span_50 ?_
            exact cr_ite (by rw [if_pos c4]) J2
        · have hyp := hyp.2 c3
          refine cr_ldcw h wc_X9_318 dX9_span_25 ?_
          refine cr_iret h rfl rfl rfl dX9_span_28 ?_
          exact hK _ _ hyp
