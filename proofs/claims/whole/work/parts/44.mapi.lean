def t_yX9_layTold (τ : Nat → Nat) (I : cr_I) (Q : cr_I → Prop) : Prop := p_yX9_layRun τ (I 214 0) (I 214 2) (I 200 19) I ∧ (∀ (J1 : cr_I), q_yX9_layRun τ (I 214 0) (I 214 2) (I 200 19) I J1 → Q J1)
abbrev T_yX9_layTold : cr_T := fun vs I R K => ∃ (τ : Nat → Nat) (Q : cr_I → Prop), R = cr_rf τ ∧ cr_tau τ ∧ vs = [.ref 200] ∧ t_yX9_layTold τ I Q ∧ ∀ J, Q J → K none J (cr_rf τ)
theorem C_yX9_layTold : cr_C yX9_layTold cX9_layTold 1 none (cr_rm0 4 102) 247 247 T_yX9_layTold := by
  refine cr_C.of (by decide +kernel) (fun vs I R K hT => ?_) (fun Γ K h vs I R hT => ?_)
  · obtain ⟨τ, Q, rfl, hτ, rfl, hyp, hK⟩ := hT
    exact Nat.le_of_ble_eq_true rfl
  · obtain ⟨τ, Q, rfl, hτ, rfl, hyp, hK⟩ := hT
    unfold t_yX9_layTold at hyp
    show cr_V Γ 0 [.ref 200] [] I (cr_rf τ) 247
    refine cr_aload_n h (j := 0) rfl rfl dX9_layTold_0 ?_
    refine cr_aload_n h (j := 0) rfl rfl dX9_layTold_1 ?_
    refine cr_getR h (k := 15) cr_clsX9 (by decide) rfl rfl wf_X9_53 (by decide) rfl rfl dX9_layTold_2 ?_
    refine cr_iconst h (v := (0 : Int32)) (by decide) dX9_layTold_5 ?_
    refine cs_ild h (by decide) rfl (by decide) (q := 0) (by decide) dX9_layTold_6 ?_
    refine cr_aload_n h (j := 0) rfl rfl dX9_layTold_7 ?_
    refine cr_getR h (k := 15) cr_clsX9 (by decide) rfl rfl wf_X9_53 (by decide) rfl rfl dX9_layTold_8 ?_
    refine cr_iconst h (v := (2 : Int32)) (by decide) dX9_layTold_11 ?_
    refine cs_ild h (by decide) rfl (by decide) (q := 2) (by decide) dX9_layTold_12 ?_
    refine cr_aload_n h (j := 0) rfl rfl dX9_layTold_13 ?_
    refine cr_getI h (k := 19) cr_clsX9 (by decide) rfl rfl wf_X9_257 (by decide) rfl dX9_layTold_14 ?_
    refine cr_callV h (c0 := 9) (T0 := TX9) C_yX9_layRun cZ_yX9_layRun wm_X9_315 wv_yX9_layRun we_yX9_layRun (by decide) rfl rfl (cr_rmS (by decide) (by decide)) (As := [.int (I 214 0), .int (I 214 2), .int (I 200 19)]) rfl (Nat.le_of_ble_eq_true rfl) dX9_layTold_17 ⟨τ, (I 214 0), (I 214 2), (I 200 19), rfl, hτ, rfl, hyp.1, fun J1 q1 => ?_⟩
    have hyp := hyp.2 J1 q1
    show cr_V Γ 20 [.ref 200] [] J1 (cr_rf τ) 247
    refine cr_vret h rfl rfl dX9_layTold_20 ?_
    exact hK _ hyp
def t_yX9_at (τ : Nat → Nat) (x1 : Int32) (x2 : Int32) (x3 : Int32) (I : cr_I) (Q : Int32 → cr_I → Prop) : Prop := ((f_yX9_isLorry τ x1 I) = 0 → Q (-2147483648 : Int32) I) ∧ (¬ (f_yX9_isLorry τ x1 I) = 0 → (((f_yX9_in τ x2.toInt64 (0 : Int64) (31 : Int64) I) = 0 → Q (-2147483648 : Int32) I) ∧ (¬ (f_yX9_in τ x2.toInt64 (0 : Int64) (31 : Int64) I) = 0 → ((¬ (f_yX9_in τ x3.toInt64 (0 : Int64) (5 : Int64) I) = 0 → (t_yX9_layTold τ I (fun (J1 : cr_I) => ∀ v1 : Int32, v1 = (((6 : Int32) * x2) + x1) → ((¬ x3 = 0 → ((¬ x3 = (1 : Int32) → ((¬ x3 = (2 : Int32) → ((¬ x3 = (3 : Int32) → ((¬ x3 = (4 : Int32) → ((0 ≤ v1.toInt ∧ v1.toInt < 192) ∧ Q (J1 238 v1.toNatClampNeg) J1)) ∧ (x3 = (4 : Int32) → ((0 ≤ v1.toInt ∧ v1.toInt < 192) ∧ Q (J1 237 v1.toNatClampNeg) J1)))) ∧ (x3 = (3 : Int32) → ((0 ≤ v1.toInt ∧ v1.toInt < 192) ∧ Q (J1 236 v1.toNatClampNeg) J1)))) ∧ (x3 = (2 : Int32) → ((0 ≤ v1.toInt ∧ v1.toInt < 192) ∧ Q (J1 235 v1.toNatClampNeg) J1)))) ∧ (x3 = (1 : Int32) → ((¬ x1 = 0 → ((0 ≤ v1.toInt ∧ v1.toInt < 192) ∧ Q (J1 234 v1.toNatClampNeg) J1)) ∧ (x1 = 0 → Q (-1 : Int32) J1))))) ∧ (x3 = 0 → ((0 ≤ v1.toInt ∧ v1.toInt < 192) ∧ Q (J1 233 v1.toNatClampNeg) J1)))))) ∧ ((f_yX9_in τ x3.toInt64 (0 : Int64) (5 : Int64) I) = 0 → Q (-2147483648 : Int32) I)))))
abbrev T_yX9_at : cr_T := fun vs I R K => ∃ (τ : Nat → Nat) (x1 : Int32) (x2 : Int32) (x3 : Int32) (Q : Int32 → cr_I → Prop), R = cr_rf τ ∧ cr_tau τ ∧ vs = [.ref 200, .int x1, .int x2, .int x3] ∧ t_yX9_at τ x1 x2 x3 I Q ∧ ∀ r J, Q r J → K (some (.int r)) J (cr_rf τ)
theorem C_yX9_at : cr_C yX9_at cX9_at 5 (some .int) (cr_rm0 5 122) 247 247 T_yX9_at := by
  refine cr_C.of (by decide +kernel) (fun vs I R K hT => ?_) (fun Γ K h vs I R hT => ?_)
  · obtain ⟨τ, x1, x2, x3, Q, rfl, hτ, rfl, hyp, hK⟩ := hT
    exact Nat.le_of_ble_eq_true rfl
  · obtain ⟨τ, x1, x2, x3, Q, rfl, hτ, rfl, hyp, hK⟩ := hT
    unfold t_yX9_at at hyp
    show cr_V Γ 0 [.ref 200, .int x1, .int x2, .int x3, .null] [] I (cr_rf τ) 247
    refine cr_aload_n h (j := 0) rfl rfl dX9_at_0 ?_
    refine cr_iload_n h (j := 1) rfl rfl dX9_at_1 ?_
    refine cr_callV h (c0 := 9) (T0 := TX9) C_yX9_isLorry cZ_yX9_isLorry wm_X9_265 wv_yX9_isLorry we_yX9_isLorry (by decide) rfl rfl (cr_rmS (by decide) (by decide)) (As := [.int x1]) rfl (Nat.le_of_ble_eq_true rfl) dX9_at_2 ⟨τ, x1, rfl, hτ, rfl, ?_⟩
    show cr_V Γ 5 [.ref 200, .int x1, .int x2, .int x3, .null] [.int (f_yX9_isLorry τ x1 I)] I (cr_rf τ) 247
    refine cr_if_eq h (tgt := 32) (by decide) dX9_at_5 (fun c1 => ?_) (fun c1 => ?_)
    · have hyp := hyp.1 c1
      refine cr_ldcw h wc_X9_318 dX9_at_32 ?_
      refine cr_iret h rfl rfl rfl dX9_at_35 ?_
      exact hK _ _ hyp
    · have hyp := hyp.2 c1
      refine cr_iload_n h (j := 2) rfl rfl dX9_at_8 ?_
      refine cr_i2l h dX9_at_9 ?_
      refine cr_lconst h (v := (0 : Int64)) (by decide) dX9_at_10 ?_
      refine cr_ldc2 h wc_X9_188 dX9_at_11 ?_
      refine cr_callS h C_yX9_in cZ_yX9_in wm_X9_154 ws_yX9_in (cr_rmS (by decide) (by decide)) (As := [.long x2.toInt64, .long (0 : Int64), .long (31 : Int64)]) rfl (Nat.le_of_ble_eq_true rfl) dX9_at_14 ⟨τ, x2.toInt64, (0 : Int64), (31 : Int64), rfl, hτ, rfl, ?_⟩
      show cr_V Γ 17 [.ref 200, .int x1, .int x2, .int x3, .null] [.int (f_yX9_in τ x2.toInt64 (0 : Int64) (31 : Int64) I)] I (cr_rf τ) 247
      refine cr_if_eq h (tgt := 32) (by decide) dX9_at_17 (fun c2 => ?_) (fun c2 => ?_)
      · have hyp := hyp.1 c2
        refine cr_ldcw h wc_X9_318 dX9_at_32 ?_
        refine cr_iret h rfl rfl rfl dX9_at_35 ?_
        exact hK _ _ hyp
      · have hyp := hyp.2 c2
        refine cr_iload_n h (j := 3) rfl rfl dX9_at_20 ?_
        refine cr_i2l h dX9_at_21 ?_
        refine cr_lconst h (v := (0 : Int64)) (by decide) dX9_at_22 ?_
        refine cr_ldc2 h wc_X9_158 dX9_at_23 ?_
        refine cr_callS h C_yX9_in cZ_yX9_in wm_X9_154 ws_yX9_in (cr_rmS (by decide) (by decide)) (As := [.long x3.toInt64, .long (0 : Int64), .long (5 : Int64)]) rfl (Nat.le_of_ble_eq_true rfl) dX9_at_26 ⟨τ, x3.toInt64, (0 : Int64), (5 : Int64), rfl, hτ, rfl, ?_⟩
        show cr_V Γ 29 [.ref 200, .int x1, .int x2, .int x3, .null] [.int (f_yX9_in τ x3.toInt64 (0 : Int64) (5 : Int64) I)] I (cr_rf τ) 247
        refine cr_if_ne h (tgt := 36) (by decide) dX9_at_29 (fun c3 => ?_) (fun c3 => ?_)
        · have hyp := hyp.1 c3
          refine cr_aload_n h (j := 0) rfl rfl dX9_at_36 ?_
          refine cr_callV h (c0 := 9) (T0 := TX9) C_yX9_layTold cZ_yX9_layTold wm_X9_319 wv_yX9_layTold we_yX9_layTold (by decide) rfl rfl (cr_rmS (by decide) (by decide)) (As := []) rfl (Nat.le_of_ble_eq_true rfl) dX9_at_37 ⟨τ, _, rfl, hτ, rfl, hyp, fun J1 hyp => ?_⟩
          show cr_V Γ 40 [.ref 200, .int x1, .int x2, .int x3, .null] [] J1 (cr_rf τ) 247
          refine cr_bipush h (v := (6 : Int32)) (by decide) dX9_at_40 ?_
          refine cr_iload_n h (j := 2) rfl rfl dX9_at_42 ?_
          refine cr_imul h dX9_at_43 ?_
          refine cr_iload_n h (j := 1) rfl rfl dX9_at_44 ?_
          refine cr_iadd h dX9_at_45 ?_
          refine cs_i h 4 (by decide) rfl dX9_at_46 (fun v1 ev1 => ?_)
          have hyp := hyp v1 ev1
          show cr_V Γ 48 [.ref 200, .int x1, .int x2, .int x3, .int v1] [] J1 (cr_rf τ) 247
          refine cr_iload_n h (j := 3) rfl rfl dX9_at_48 ?_
          refine cr_if_ne h (tgt := 62) (by decide) dX9_at_49 (fun c4 => ?_) (fun c4 => ?_)
          · have hyp := hyp.1 c4
            refine cr_iload_n h (j := 3) rfl rfl dX9_at_62 ?_
            refine cr_iconst h (v := (1 : Int32)) (by decide) dX9_at_63 ?_
            refine cr_icmp_ne h (tgt := 85) (by decide) dX9_at_64 (fun c5 => ?_) (fun c5 => ?_)
            · have hyp := hyp.1 c5
              refine cr_iload_n h (j := 3) rfl rfl dX9_at_85 ?_
              refine cr_iconst h (v := (2 : Int32)) (by decide) dX9_at_86 ?_
              refine cr_icmp_ne h (tgt := 100) (by decide) dX9_at_87 (fun c6 => ?_) (fun c6 => ?_)
              · have hyp := hyp.1 c6
                refine cr_iload_n h (j := 3) rfl rfl dX9_at_100 ?_
                refine cr_iconst h (v := (3 : Int32)) (by decide) dX9_at_101 ?_
                refine cr_icmp_ne h (tgt := 115) (by decide) dX9_at_102 (fun c7 => ?_) (fun c7 => ?_)
                · have hyp := hyp.1 c7
                  refine cr_iload_n h (j := 3) rfl rfl dX9_at_115 ?_
                  refine cr_iconst h (v := (4 : Int32)) (by decide) dX9_at_116 ?_
                  refine cr_icmp_ne h (tgt := 130) (by decide) dX9_at_117 (fun c8 => ?_) (fun c8 => ?_)
                  · have hyp := hyp.1 c8
                    refine cr_aload_n h (j := 0) rfl rfl dX9_at_130 ?_
                    refine cr_getR h (k := 53) cr_clsX9 (by decide) rfl rfl wf_X9_125 (by decide) rfl rfl dX9_at_131 ?_
                    refine cr_iload h rfl dX9_at_134 ?_
                    refine cs_ild h (by decide) rfl hyp.1 (q := v1.toNatClampNeg) rfl dX9_at_136 ?_
                    have hyp := hyp.2
                    refine cr_iret h rfl rfl rfl dX9_at_137 ?_
                    exact hK _ _ hyp
                  · have hyp := hyp.2 c8
                    refine cr_aload_n h (j := 0) rfl rfl dX9_at_120 ?_
                    refine cr_getR h (k := 52) cr_clsX9 (by decide) rfl rfl wf_X9_122 (by decide) rfl rfl dX9_at_121 ?_
                    refine cr_iload h rfl dX9_at_124 ?_
                    refine cs_ild h (by decide) rfl hyp.1 (q := v1.toNatClampNeg) rfl dX9_at_126 ?_
                    have hyp := hyp.2
                    refine cr_goto h (tgt := 137) (by decide) dX9_at_127 ?_
                    refine cr_iret h rfl rfl rfl dX9_at_137 ?_
                    exact hK _ _ hyp
                · have hyp := hyp.2 c7
                  refine cr_aload_n h (j := 0) rfl rfl dX9_at_105 ?_
                  refine cr_getR h (k := 51) cr_clsX9 (by decide) rfl rfl wf_X9_119 (by decide) rfl rfl dX9_at_106 ?_
                  refine cr_iload h rfl dX9_at_109 ?_
                  refine cs_ild h (by decide) rfl hyp.1 (q := v1.toNatClampNeg) rfl dX9_at_111 ?_
                  have hyp := hyp.2
                  refine cr_goto h (tgt := 137) (by decide) dX9_at_112 ?_
                  refine cr_iret h rfl rfl rfl dX9_at_137 ?_
                  exact hK _ _ hyp
              · have hyp := hyp.2 c6
                refine cr_aload_n h (j := 0) rfl rfl dX9_at_90 ?_
                refine cr_getR h (k := 50) cr_clsX9 (by decide) rfl rfl wf_X9_116 (by decide) rfl rfl dX9_at_91 ?_
                refine cr_iload h rfl dX9_at_94 ?_
                refine cs_ild h (by decide) rfl hyp.1 (q := v1.toNatClampNeg) rfl dX9_at_96 ?_
                have hyp := hyp.2
                refine cr_goto h (tgt := 137) (by decide) dX9_at_97 ?_
                refine cr_iret h rfl rfl rfl dX9_at_137 ?_
                exact hK _ _ hyp
            · have hyp := hyp.2 c5
              refine cr_iload_n h (j := 1) rfl rfl dX9_at_67 ?_
              refine cr_if_ne h (tgt := 75) (by decide) dX9_at_68 (fun c9 => ?_) (fun c9 => ?_)
              · have hyp := hyp.1 c9
                refine cr_aload_n h (j := 0) rfl rfl dX9_at_75 ?_
                refine cr_getR h (k := 49) cr_clsX9 (by decide) rfl rfl wf_X9_113 (by decide) rfl rfl dX9_at_76 ?_
                refine cr_iload h rfl dX9_at_79 ?_
                refine cs_ild h (by decide) rfl hyp.1 (q := v1.toNatClampNeg) rfl dX9_at_81 ?_
                have hyp := hyp.2
                refine cr_goto h (tgt := 137) (by decide) dX9_at_82 ?_
                refine cr_iret h rfl rfl rfl dX9_at_137 ?_
                exact hK _ _ hyp
              · have hyp := hyp.2 c9
                refine cr_iconst h (v := (-1 : Int32)) (by decide) dX9_at_71 ?_
                refine cr_goto h (tgt := 137) (by decide) dX9_at_72 ?_
                refine cr_iret h rfl rfl rfl dX9_at_137 ?_
                exact hK _ _ hyp
          · have hyp := hyp.2 c4
            refine cr_aload_n h (j := 0) rfl rfl dX9_at_52 ?_
            refine cr_getR h (k := 48) cr_clsX9 (by decide) rfl rfl wf_X9_110 (by decide) rfl rfl dX9_at_53 ?_
            refine cr_iload h rfl dX9_at_56 ?_
            refine cs_ild h (by decide) rfl hyp.1 (q := v1.toNatClampNeg) rfl dX9_at_58 ?_
            have hyp := hyp.2
            refine cr_goto h (tgt := 137) (by decide) dX9_at_59 ?_
            refine cr_iret h rfl rfl rfl dX9_at_137 ?_
            exact hK _ _ hyp
        · have hyp := hyp.2 c3
          refine cr_ldcw h wc_X9_318 dX9_at_32 ?_
          refine cr_iret h rfl rfl rfl dX9_at_35 ?_
          exact hK _ _ hyp
def t_yX9_touch (τ : Nat → Nat) (x1 : Int32) (I : cr_I) (Q : Int32 → cr_I → Prop) : Prop := (¬ (f_yX9_in τ x1.toInt64 (0 : Int64) (1 : Int64) I) = 0 → (t_yX9_layTold τ I (fun (J1 : cr_I) => (¬ x1 = 0 → Q (J1 200 56) J1) ∧ (x1 = 0 → Q (J1 200 55) J1)))) ∧ ((f_yX9_in τ x1.toInt64 (0 : Int64) (1 : Int64) I) = 0 → Q (-3 : Int32) I)
abbrev T_yX9_touch : cr_T := fun vs I R K => ∃ (τ : Nat → Nat) (x1 : Int32) (Q : Int32 → cr_I → Prop), R = cr_rf τ ∧ cr_tau τ ∧ vs = [.ref 200, .int x1] ∧ t_yX9_touch τ x1 I Q ∧ ∀ r J, Q r J → K (some (.int r)) J (cr_rf τ)
theorem C_yX9_touch : cr_C yX9_touch cX9_touch 2 (some .int) (cr_rm0 5 122) 247 247 T_yX9_touch := by
  refine cr_C.of (by decide +kernel) (fun vs I R K hT => ?_) (fun Γ K h vs I R hT => ?_)
  · obtain ⟨τ, x1, Q, rfl, hτ, rfl, hyp, hK⟩ := hT
    exact Nat.le_of_ble_eq_true rfl
  · obtain ⟨τ, x1, Q, rfl, hτ, rfl, hyp, hK⟩ := hT
    unfold t_yX9_touch at hyp
    show cr_V Γ 0 [.ref 200, .int x1] [] I (cr_rf τ) 247
    refine cr_iload_n h (j := 1) rfl rfl dX9_touch_0 ?_
    refine cr_i2l h dX9_touch_1 ?_
    refine cr_lconst h (v := (0 : Int64)) (by decide) dX9_touch_2 ?_
    refine cr_lconst h (v := (1 : Int64)) (by decide) dX9_touch_3 ?_
    refine cr_callS h C_yX9_in cZ_yX9_in wm_X9_154 ws_yX9_in (cr_rmS (by decide) (by decide)) (As := [.long x1.toInt64, .long (0 : Int64), .long (1 : Int64)]) rfl (Nat.le_of_ble_eq_true rfl) dX9_touch_4 ⟨τ, x1.toInt64, (0 : Int64), (1 : Int64), rfl, hτ, rfl, ?_⟩
    show cr_V Γ 7 [.ref 200, .int x1] [.int (f_yX9_in τ x1.toInt64 (0 : Int64) (1 : Int64) I)] I (cr_rf τ) 247
    refine cr_if_ne h (tgt := 13) (by decide) dX9_touch_7 (fun c1 => ?_) (fun c1 => ?_)
    · have hyp := hyp.1 c1
      refine cr_aload_n h (j := 0) rfl rfl dX9_touch_13 ?_
      refine cr_callV h (c0 := 9) (T0 := TX9) C_yX9_layTold cZ_yX9_layTold wm_X9_319 wv_yX9_layTold we_yX9_layTold (by decide) rfl rfl (cr_rmS (by decide) (by decide)) (As := []) rfl (Nat.le_of_ble_eq_true rfl) dX9_touch_14 ⟨τ, _, rfl, hτ, rfl, hyp, fun J1 hyp => ?_⟩
      show cr_V Γ 17 [.ref 200, .int x1] [] J1 (cr_rf τ) 247
      refine cr_iload_n h (j := 1) rfl rfl dX9_touch_17 ?_
      refine cr_if_ne h (tgt := 28) (by decide) dX9_touch_18 (fun c2 => ?_) (fun c2 => ?_)
      · have hyp := hyp.1 c2
        refine cr_aload_n h (j := 0) rfl rfl dX9_touch_28 ?_
        refine cr_getI h (k := 56) cr_clsX9 (by decide) rfl rfl wf_X9_287 (by decide) rfl dX9_touch_29 ?_
        refine cr_iret h rfl rfl rfl dX9_touch_32 ?_
        exact hK _ _ hyp
      · have hyp := hyp.2 c2
        refine cr_aload_n h (j := 0) rfl rfl dX9_touch_21 ?_
        refine cr_getI h (k := 55) cr_clsX9 (by decide) rfl rfl wf_X9_284 (by decide) rfl dX9_touch_22 ?_
        refine cr_goto h (tgt := 32) (by decide) dX9_touch_25 ?_
        refine cr_iret h rfl rfl rfl dX9_touch_32 ?_
        exact hK _ _ hyp
    · have hyp := hyp.2 c1
      refine cr_bipush h (v := (-3 : Int32)) (by decide) dX9_touch_10 ?_
      refine cr_iret h rfl rfl rfl dX9_touch_12 ?_
      exact hK _ _ hyp
/-- as told -/
def cr_mtld (I : cr_I) : Prop := cr_mok I ∧ (0 ≤ (I 214 2).toInt ∧ (I 214 2).toInt ≤ 4)
theorem cw_mtold {τ : Nat → Nat} {I : cr_I} {Q : cr_I → Prop} (h : cr_mtld I) (hQ : ∀ J, cr_F cr_PRm I J → cr_mv (cr_mpar I) (I 214 0) (cr_dl (I 214 2)) (I 200 19) 32 J → Q J) : t_yX9_layTold τ I Q := ⟨h, fun J hJ => hQ J hJ.1 hJ.2⟩
theorem cr_ls {τ : Nat → Nat} {a b : Int32} {I : cr_I} : f_yX9_lesser τ a b I = if b < a then b else a := by
  unfold f_yX9_lesser
  rw [cr_iten]
  by_cases q : a < b
  · rw [if_pos q, if_neg (fun z => by rw [cr_lt] at q z; omega)]
  · rw [if_neg q]
    by_cases y : b < a
    · rw [if_pos y]
    · rw [if_neg y, cr_eq]
      rw [cr_lt] at q y
      omega
def f_yX9_dipOf (τ : Nat → Nat) (x1 : Int32) (I : cr_I) : Int32 := I 214 1 - cr_minF (I 214 1) (fun k => I 233 (6 * k + x1.toNatClampNeg)) 32
def p_yX9_dipOf (τ : Nat → Nat) (x1 : Int32) (I : cr_I) : Prop := 0 ≤ x1.toInt ∧ x1.toInt < 6
theorem bk_yX9_dipOf_0 {Γ : cr_G} {K : cr_K} {τ : Nat → Nat} {I : cr_I} {x1 : Int32} (hτ : cr_tau τ)  (h : cr_Ok yX9_dipOf cX9_dipOf 4 (some .int) (cr_rm0 1 21) K 247 247 Γ) (hyp : ∀ v1 : Int32, v1 = (I 214 1) → cr_V Γ 9 [.ref 200, .int x1, .int v1, .int (0 : Int32)] [] I (cr_rf τ) 247) : cr_V Γ 0 [.ref 200, .int x1, .null, .null] [] I (cr_rf τ) 247 := by
  refine cr_aload_n h (j := 0) rfl rfl dX9_dipOf_0 ?_
  refine cr_getR h (k := 15) cr_clsX9 (by decide) rfl rfl wf_X9_53 (by decide) rfl rfl dX9_dipOf_1 ?_
  refine cr_iconst h (v := (1 : Int32)) (by decide) dX9_dipOf_4 ?_
  refine cs_ild h (by decide) rfl (by decide) (q := 1) (by decide) dX9_dipOf_5 ?_
  refine cs_i_n h 2 rfl (by decide) rfl dX9_dipOf_6 (fun v1 ev1 => ?_)
  have hyp := hyp v1 ev1
  show cr_V Γ 7 [.ref 200, .int x1, .int v1, .null] [] I (cr_rf τ) 247
  refine cr_iconst h (v := (0 : Int32)) (by decide) dX9_dipOf_7 ?_
  refine cr_istore_n h (j := 3) rfl (by decide) rfl dX9_dipOf_8 ?_
  show cr_V Γ 9 [.ref 200, .int x1, .int v1, .int (0 : Int32)] [] I (cr_rf τ) 247
  exact cr_weak [true, true, true, true] hyp
theorem bk_yX9_dipOf_9 {Γ : cr_G} {K : cr_K} {τ : Nat → Nat} {I : cr_I} {x1 : Int32} {x2 : Int32} {x3 : Int32} (hτ : cr_tau τ)  (h : cr_Ok yX9_dipOf cX9_dipOf 4 (some .int) (cr_rm0 1 21) K 247 247 Γ) (hyp : ((32 : Int32) ≤ x3 → K (some (.int ((I 214 1) - x2))) I (cr_rf τ)) ∧ (¬ (32 : Int32) ≤ x3 → ((0 ≤ (((6 : Int32) * x3) + x1).toInt ∧ (((6 : Int32) * x3) + x1).toInt < 192) ∧ (∀ v2 : Int32, v2 = (f_yX9_lesser τ x2 (I 233 (((6 : Int32) * x3) + x1).toNatClampNeg) I) → (∀ v3 : Int32, v3 = x3 + (1 : Int32) → cr_V Γ 9 [.ref 200, .int x1, .int v2, .int v3] [] I (cr_rf τ) 247))))) : cr_V Γ 9 [.ref 200, .int x1, .int x2, .int x3] [] I (cr_rf τ) 247 := by
  refine cr_iload_n h (j := 3) rfl rfl dX9_dipOf_9 ?_
  refine cr_bipush h (v := (32 : Int32)) (by decide) dX9_dipOf_10 ?_
  refine cr_icmp_ge h (tgt := 37) (by decide) dX9_dipOf_12 (fun c1 => ?_) (fun c1 => ?_)
  · have hyp := hyp.1 c1
    refine cr_aload_n h (j := 0) rfl rfl dX9_dipOf_37 ?_
    refine cr_getR h (k := 15) cr_clsX9 (by decide) rfl rfl wf_X9_53 (by decide) rfl rfl dX9_dipOf_38 ?_
    refine cr_iconst h (v := (1 : Int32)) (by decide) dX9_dipOf_41 ?_
    refine cs_ild h (by decide) rfl (by decide) (q := 1) (by decide) dX9_dipOf_42 ?_
    refine cr_iload_n h (j := 2) rfl rfl dX9_dipOf_43 ?_
    refine cr_isub h dX9_dipOf_44 ?_
    refine cr_iret h rfl rfl rfl dX9_dipOf_45 ?_
    exact hyp
  · have hyp := hyp.2 c1
    refine cr_iload_n h (j := 2) rfl rfl dX9_dipOf_15 ?_
    refine cr_aload_n h (j := 0) rfl rfl dX9_dipOf_16 ?_
    refine cr_getR h (k := 48) cr_clsX9 (by decide) rfl rfl wf_X9_110 (by decide) rfl rfl dX9_dipOf_17 ?_
    refine cr_bipush h (v := (6 : Int32)) (by decide) dX9_dipOf_20 ?_
    refine cr_iload_n h (j := 3) rfl rfl dX9_dipOf_22 ?_
    refine cr_imul h dX9_dipOf_23 ?_
    refine cr_iload_n h (j := 1) rfl rfl dX9_dipOf_24 ?_
    refine cr_iadd h dX9_dipOf_25 ?_
    refine cs_ild h (by decide) rfl hyp.1 (q := (((6 : Int32) * x3) + x1).toNatClampNeg) rfl dX9_dipOf_26 ?_
    have hyp := hyp.2
    refine cr_callS h C_yX9_lesser cZ_yX9_lesser wm_X9_280 ws_yX9_lesser (cr_rmS (by decide) (by decide)) (As := [.int x2, .int (I 233 (((6 : Int32) * x3) + x1).toNatClampNeg)]) rfl (Nat.le_of_ble_eq_true rfl) dX9_dipOf_27 ⟨τ, x2, (I 233 (((6 : Int32) * x3) + x1).toNatClampNeg), rfl, hτ, rfl, ?_⟩
    show cr_V Γ 30 [.ref 200, .int x1, .int x2, .int x3] [.int (f_yX9_lesser τ x2 (I 233 (((6 : Int32) * x3) + x1).toNatClampNeg) I)] I (cr_rf τ) 247
    refine cs_i_n h 2 rfl (by decide) rfl dX9_dipOf_30 (fun v2 ev2 => ?_)
    have hyp := hyp v2 ev2
    show cr_V Γ 31 [.ref 200, .int x1, .int v2, .int x3] [] I (cr_rf τ) 247
    refine cs_inc h (v := (1 : Int32)) 3 rfl (by decide) (by decide) rfl dX9_dipOf_31 (fun v3 ev3 => ?_)
    have hyp := hyp v3 ev3
    show cr_V Γ 34 [.ref 200, .int x1, .int v2, .int v3] [] I (cr_rf τ) 247
    refine cr_goto h (tgt := 9) (by decide) dX9_dipOf_34 ?_
    exact cr_weak [true, true, true, true] hyp
abbrev T_yX9_dipOf : cr_T := fun vs I R K => ∃ (τ : Nat → Nat) (x1 : Int32), R = cr_rf τ ∧ cr_tau τ ∧ vs = [.ref 200, .int x1] ∧ p_yX9_dipOf τ x1 I ∧ K (some (.int (f_yX9_dipOf τ x1 I))) I (cr_rf τ)
abbrev S_yX9_dipOf : Prop := cr_C yX9_dipOf cX9_dipOf 4 (some .int) (cr_rm0 1 21) 247 247 T_yX9_dipOf
theorem G_yX9_dipOf (H : ∀ (Γ : cr_G) (K : cr_K) (τ : Nat → Nat) (x1 : Int32) (I : cr_I), cr_tau τ → cr_Ok yX9_dipOf cX9_dipOf 4 (some .int) (cr_rm0 1 21) K 247 247 Γ → p_yX9_dipOf τ x1 I → K (some (.int (f_yX9_dipOf τ x1 I))) I (cr_rf τ) → cr_V Γ 0 [.ref 200, .int x1, .null, .null] [] I (cr_rf τ) 247) : cr_C yX9_dipOf cX9_dipOf 4 (some .int) (cr_rm0 1 21) 247 247 T_yX9_dipOf := by
  refine cr_C.of (by decide +kernel) (fun vs I R K hT => ?_) (fun Γ K h vs I R hT => ?_)
  · obtain ⟨τ, x1, rfl, hτ, rfl, hp, hK⟩ := hT
    exact Nat.le_of_ble_eq_true rfl
  · obtain ⟨τ, x1, rfl, hτ, rfl, hp, hK⟩ := hT
    exact H Γ K τ x1 I hτ h hp hK
theorem C_yX9_dipOf : S_yX9_dipOf := G_yX9_dipOf (by
  intro Γ K τ x1 I hτ h hp hK
  unfold f_yX9_dipOf at hK
  obtain ⟨e1, h5⟩ := cr_ofI (B := 5) hp.1 (by have := hp.2; omega)
  generalize x1.toNatClampNeg = i at *
  refine bk_yX9_dipOf_0 hτ h ?_
  rintro v rfl
  rw [e1]
  refine cr_loop (fun k => cr_V Γ 9 [.ref 200, .int (nI i), .int (cr_minF (I 214 1) (fun k => I 233 (6 * k + i)) k), .int (nI k)] [] I (cr_rf τ) 247) 32 ?_ ?_ 0 (Nat.zero_le _)
  · exact bk_yX9_dipOf_9 hτ h ⟨fun _ => hK, fun z => absurd (by decide) z⟩
  · intro k hk ih
    refine bk_yX9_dipOf_9 hτ h ⟨fun z => absurd z (nI_ge (a := k) (b := 32) hk (by omega)), fun _ => ?_⟩
    rw [cr_6k (by omega) (by omega), cr_nc (show 6 * k + i < 100000 by omega), cr_ls]
    refine ⟨cr_ix (by omega) (by omega), ?_⟩
    rintro v rfl w rfl
    rw [nI_1]
    exact ih)
theorem cr_mv.dip {τ : Nat → Nat} {p : cr_par} {g : Int32} {dl : Nat} {lost : Int32} {J : cr_I} {i : Nat} (h : cr_mv p g dl lost 32 J) (h0 : J 214 1 = ps0 p) (hi : i < pn p) (hi6 : i < 6) : p_yX9_dipOf τ (nI i) J ∧ f_yX9_dipOf τ (nI i) J = cr_dpS p g dl lost i := by
  refine ⟨cr_ix (by omega) (by omega), ?_⟩
  unfold f_yX9_dipOf cr_dpS
  rw [cr_nc (by omega), h0]
  rw [cr_minF_c 32 (fun k hk => (h.2.1 i k hi hk).2.1)]
def p_yX9_least (τ : Nat → Nat) (x1 : Int32) (I : cr_I) : Prop := cr_mtld I
def q_yX9_least (τ : Nat → Nat) (x1 : Int32) (I : cr_I) (r : Int32) (J : cr_I) : Prop := (¬ (1 ≤ x1.toInt ∧ x1.toInt < (cr_mn0 I : Int)) ∧ r = -2147483648 ∧ J = I) ∨ ((1 ≤ x1.toInt ∧ x1.toInt < (cr_mn0 I : Int)) ∧ cr_F cr_PRm I J ∧ r = cr_minF 268435456 (fun k => rG (cr_rs (cr_mpar I) (I 214 0) (cr_dl (I 214 2)) (I 200 19) (k + 1)) x1.toNatClampNeg) 32)
theorem cr_mil {τ : Nat → Nat} {x : Int32} {I : cr_I} (h : cr_mnok I) : f_yX9_isLorry τ x I = 0 ↔ ¬ (0 ≤ x.toInt ∧ x.toInt < (cr_mn0 I : Int)) := by
  obtain ⟨e, h1, h6⟩ := h.un
  unfold f_yX9_isLorry
  rw [cr_in0, Int32.toInt_toInt64, Int32.toInt_toInt64, e, cr_sub (by rw [cr_nt (by omega)]; have : (1 : Int32).toInt = 1 := rfl; omega), cr_nt (by omega)]
  have z0 : (0 : Int64).toInt = 0 := rfl
  have z1 : (1 : Int32).toInt = 1 := rfl
  rw [z0, z1]
  omega
theorem bk_yX9_least_0 {Γ : cr_G} {K : cr_K} {τ : Nat → Nat} {I : cr_I} {x1 : Int32} (hτ : cr_tau τ)  (h : cr_Ok yX9_least cX9_least 4 (some .int) (cr_rm0 5 122) K 247 247 Γ) (hyp : ((f_yX9_isLorry τ x1 I) = 0 → K (some (.int (-2147483648 : Int32))) I (cr_rf τ)) ∧ (¬ (f_yX9_isLorry τ x1 I) = 0 → ((¬ x1 = 0 → (t_yX9_layTold τ I (fun (J1 : cr_I) => cr_V Γ 26 [.ref 200, .int x1, .int (268435456 : Int32), .int (0 : Int32)] [] J1 (cr_rf τ) 247))) ∧ (x1 = 0 → K (some (.int (-2147483648 : Int32))) I (cr_rf τ))))) : cr_V Γ 0 [.ref 200, .int x1, .null, .null] [] I (cr_rf τ) 247 := by
  refine cr_aload_n h (j := 0) rfl rfl dX9_least_0 ?_
  refine cr_iload_n h (j := 1) rfl rfl dX9_least_1 ?_
  refine cr_callV h (c0 := 9) (T0 := TX9) C_yX9_isLorry cZ_yX9_isLorry wm_X9_265 wv_yX9_isLorry we_yX9_isLorry (by decide) rfl rfl (cr_rmS (by decide) (by decide)) (As := [.int x1]) rfl (Nat.le_of_ble_eq_true rfl) dX9_least_2 ⟨τ, x1, rfl, hτ, rfl, ?_⟩
  show cr_V Γ 5 [.ref 200, .int x1, .null, .null] [.int (f_yX9_isLorry τ x1 I)] I (cr_rf τ) 247
  refine cr_if_eq h (tgt := 12) (by decide) dX9_least_5 (fun c1 => ?_) (fun c1 => ?_)
  · have hyp := hyp.1 c1
    refine cr_ldcw h wc_X9_318 dX9_least_12 ?_
    refine cr_iret h rfl rfl rfl dX9_least_15 ?_
    exact hyp
  · have hyp := hyp.2 c1
    refine cr_iload_n h (j := 1) rfl rfl dX9_least_8 ?_
    refine cr_if_ne h (tgt := 16) (by decide) dX9_least_9 (fun c2 => ?_) (fun c2 => ?_)
    · have hyp := hyp.1 c2
      refine cr_aload_n h (j := 0) rfl rfl dX9_least_16 ?_
      refine cr_callV h (c0 := 9) (T0 := TX9) C_yX9_layTold cZ_yX9_layTold wm_X9_319 wv_yX9_layTold we_yX9_layTold (by decide) rfl rfl (cr_rmS (by decide) (by decide)) (As := []) rfl (Nat.le_of_ble_eq_true rfl) dX9_least_17 ⟨τ, _, rfl, hτ, rfl, hyp, fun J1 hyp => ?_⟩
      show cr_V Γ 20 [.ref 200, .int x1, .null, .null] [] J1 (cr_rf τ) 247
      refine cr_ldcw h wc_X9_322 dX9_least_20 ?_
      refine cr_istore_n h (j := 2) rfl (by decide) rfl dX9_least_23 ?_
      show cr_V Γ 24 [.ref 200, .int x1, .int (268435456 : Int32), .null] [] J1 (cr_rf τ) 247
      refine cr_iconst h (v := (0 : Int32)) (by decide) dX9_least_24 ?_
      refine cr_istore_n h (j := 3) rfl (by decide) rfl dX9_least_25 ?_
      show cr_V Γ 26 [.ref 200, .int x1, .int (268435456 : Int32), .int (0 : Int32)] [] J1 (cr_rf τ) 247
      exact cr_weak [true, true, true, true] hyp
    · have hyp := hyp.2 c2
      refine cr_ldcw h wc_X9_318 dX9_least_12 ?_
      refine cr_iret h rfl rfl rfl dX9_least_15 ?_
      exact hyp
theorem bk_yX9_least_26 {Γ : cr_G} {K : cr_K} {τ : Nat → Nat} {I : cr_I} {x1 : Int32} {x2 : Int32} {x3 : Int32} (hτ : cr_tau τ)  (h : cr_Ok yX9_least cX9_least 4 (some .int) (cr_rm0 5 122) K 247 247 Γ) (hyp : ((32 : Int32) ≤ x3 → K (some (.int x2)) I (cr_rf τ)) ∧ (¬ (32 : Int32) ≤ x3 → ((0 ≤ (((6 : Int32) * x3) + x1).toInt ∧ (((6 : Int32) * x3) + x1).toInt < 192) ∧ (∀ v1 : Int32, v1 = (f_yX9_lesser τ x2 (I 234 (((6 : Int32) * x3) + x1).toNatClampNeg) I) → (∀ v2 : Int32, v2 = x3 + (1 : Int32) → cr_V Γ 26 [.ref 200, .int x1, .int v1, .int v2] [] I (cr_rf τ) 247))))) : cr_V Γ 26 [.ref 200, .int x1, .int x2, .int x3] [] I (cr_rf τ) 247 := by
  refine cr_iload_n h (j := 3) rfl rfl dX9_least_26 ?_
  refine cr_bipush h (v := (32 : Int32)) (by decide) dX9_least_27 ?_
  refine cr_icmp_ge h (tgt := 54) (by decide) dX9_least_29 (fun c3 => ?_) (fun c3 => ?_)
  · have hyp := hyp.1 c3
    refine cr_iload_n h (j := 2) rfl rfl dX9_least_54 ?_
    refine cr_iret h rfl rfl rfl dX9_least_55 ?_
    exact hyp
  · have hyp := hyp.2 c3
    refine cr_iload_n h (j := 2) rfl rfl dX9_least_32 ?_
    refine cr_aload_n h (j := 0) rfl rfl dX9_least_33 ?_
    refine cr_getR h (k := 49) cr_clsX9 (by decide) rfl rfl wf_X9_113 (by decide) rfl rfl dX9_least_34 ?_
    refine cr_bipush h (v := (6 : Int32)) (by decide) dX9_least_37 ?_
    refine cr_iload_n h (j := 3) rfl rfl dX9_least_39 ?_
    refine cr_imul h dX9_least_40 ?_
    refine cr_iload_n h (j := 1) rfl rfl dX9_least_41 ?_
    refine cr_iadd h dX9_least_42 ?_
    refine cs_ild h (by decide) rfl hyp.1 (q := (((6 : Int32) * x3) + x1).toNatClampNeg) rfl dX9_least_43 ?_
    have hyp := hyp.2
    refine cr_callS h C_yX9_lesser cZ_yX9_lesser wm_X9_280 ws_yX9_lesser (cr_rmS (by decide) (by decide)) (As := [.int x2, .int (I 234 (((6 : Int32) * x3) + x1).toNatClampNeg)]) rfl (Nat.le_of_ble_eq_true rfl) dX9_least_44 ⟨τ, x2, (I 234 (((6 : Int32) * x3) + x1).toNatClampNeg), rfl, hτ, rfl, ?_⟩
    show cr_V Γ 47 [.ref 200, .int x1, .int x2, .int x3] [.int (f_yX9_lesser τ x2 (I 234 (((6 : Int32) * x3) + x1).toNatClampNeg) I)] I (cr_rf τ) 247
    refine cs_i_n h 2 rfl (by decide) rfl dX9_least_47 (fun v1 ev1 => ?_)
    have hyp := hyp v1 ev1
    show cr_V Γ 48 [.ref 200, .int x1, .int v1, .int x3] [] I (cr_rf τ) 247
    refine cs_inc h (v := (1 : Int32)) 3 rfl (by decide) (by decide) rfl dX9_least_48 (fun v2 ev2 => ?_)
    have hyp := hyp v2 ev2
    show cr_V Γ 51 [.ref 200, .int x1, .int v1, .int v2] [] I (cr_rf τ) 247
    refine cr_goto h (tgt := 26) (by decide) dX9_least_51 ?_
    exact cr_weak [true, true, true, true] hyp
abbrev T_yX9_least : cr_T := fun vs I R K => ∃ (τ : Nat → Nat) (x1 : Int32), R = cr_rf τ ∧ cr_tau τ ∧ vs = [.ref 200, .int x1] ∧ p_yX9_least τ x1 I ∧ ∀ (r : Int32) J, q_yX9_least τ x1 I r J → K (some (.int r)) J (cr_rf τ)
abbrev S_yX9_least : Prop := cr_C yX9_least cX9_least 4 (some .int) (cr_rm0 5 122) 247 247 T_yX9_least
theorem G_yX9_least (H : ∀ (Γ : cr_G) (K : cr_K) (τ : Nat → Nat) (x1 : Int32) (I : cr_I), cr_tau τ → cr_Ok yX9_least cX9_least 4 (some .int) (cr_rm0 5 122) K 247 247 Γ → p_yX9_least τ x1 I → (∀ (r : Int32) J, q_yX9_least τ x1 I r J → K (some (.int r)) J (cr_rf τ)) → cr_V Γ 0 [.ref 200, .int x1, .null, .null] [] I (cr_rf τ) 247) : cr_C yX9_least cX9_least 4 (some .int) (cr_rm0 5 122) 247 247 T_yX9_least := by
  refine cr_C.of (by decide +kernel) (fun vs I R K hT => ?_) (fun Γ K h vs I R hT => ?_)
  · obtain ⟨τ, x1, rfl, hτ, rfl, hp, hK⟩ := hT
    exact Nat.le_of_ble_eq_true rfl
  · obtain ⟨τ, x1, rfl, hτ, rfl, hp, hK⟩ := hT
    exact H Γ K τ x1 I hτ h hp hK
theorem C_yX9_least : S_yX9_least := G_yX9_least (by
  intro Γ K τ x1 I hτ h hp hK
  obtain ⟨eN, h1, h6⟩ := hp.1.1.un
  have hil := cr_mil (τ := τ) (x := x1) hp.1.1
  have hx0 : (x1 = 0) ↔ x1.toInt = 0 := by rw [cr_eq]; rfl
  unfold q_yX9_least at hK
  refine bk_yX9_least_0 hτ h ⟨fun c => hK _ _ (Or.inl ⟨fun z => hil.mp c ⟨by omega, by omega⟩, rfl, rfl⟩), fun c => ⟨fun d => ?_, fun d => hK _ _ (Or.inl ⟨fun z => by rw [hx0] at d; omega, rfl, rfl⟩)⟩⟩
  rw [hil, Classical.not_not] at c
  rw [hx0] at d
  have hin : 1 ≤ x1.toInt ∧ x1.toInt < (cr_mn0 I : Int) := by omega
  refine cw_mtold hp (fun J hf hv => ?_)
  have hpn : pn (cr_mpar I) = cr_mn0 I := rfl
  obtain ⟨e1, h5⟩ := cr_ofI (B := 5) (x := x1) (by omega) (by omega)
  have hi1 : 1 ≤ x1.toNatClampNeg ∧ x1.toNatClampNeg < cr_mn0 I := by
    have : x1.toNatClampNeg = x1.toInt.toNat := rfl
    omega
  have hK' : ∀ r, r = cr_minF 268435456 (fun k => rG (cr_rs (cr_mpar I) (I 214 0) (cr_dl (I 214 2)) (I 200 19) (k + 1)) x1.toNatClampNeg) 32 → K (some (.int r)) J (cr_rf τ) := fun r hr => hK _ _ (Or.inr ⟨hin, hf, hr⟩)
  clear hK
  generalize x1.toNatClampNeg = i at *
  rw [e1]
  refine cr_loop (fun k => cr_V Γ 26 [.ref 200, .int (nI i), .int (cr_minF 268435456 (fun k => rG (cr_rs (cr_mpar I) (I 214 0) (cr_dl (I 214 2)) (I 200 19) (k + 1)) i) k), .int (nI k)] [] J (cr_rf τ) 247) 32 ?_ ?_ 0 (Nat.zero_le _)
  · exact bk_yX9_least_26 hτ h ⟨fun _ => hK' _ rfl, fun z => absurd (by decide) z⟩
  · intro k hk ih
    refine bk_yX9_least_26 hτ h ⟨fun z => absurd z (nI_ge (a := k) (b := 32) hk (by omega)), fun _ => ?_⟩
    rw [cr_6k (by omega) (by omega), cr_nc (show 6 * k + i < 100000 by omega), cr_ls, (hv.2.1 i k (by omega) hk).2.2.1 hi1.1]
    refine ⟨cr_ix (by omega) (by omega), ?_⟩
    rintro v rfl w rfl
    rw [nI_1]
    exact ih)
def t_yX9_dip (τ : Nat → Nat) (x1 : Int32) (I : cr_I) (Q : Int32 → cr_I → Prop) : Prop := (¬ (f_yX9_isLorry τ x1 I) = 0 → (t_yX9_layTold τ I (fun (J1 : cr_I) => p_yX9_dipOf τ x1 J1 ∧ Q (f_yX9_dipOf τ x1 J1) J1))) ∧ ((f_yX9_isLorry τ x1 I) = 0 → Q (-2 : Int32) I)
abbrev T_yX9_dip : cr_T := fun vs I R K => ∃ (τ : Nat → Nat) (x1 : Int32) (Q : Int32 → cr_I → Prop), R = cr_rf τ ∧ cr_tau τ ∧ vs = [.ref 200, .int x1] ∧ t_yX9_dip τ x1 I Q ∧ ∀ r J, Q r J → K (some (.int r)) J (cr_rf τ)
theorem C_yX9_dip : cr_C yX9_dip cX9_dip 2 (some .int) (cr_rm0 5 122) 247 247 T_yX9_dip := by
  refine cr_C.of (by decide +kernel) (fun vs I R K hT => ?_) (fun Γ K h vs I R hT => ?_)
  · obtain ⟨τ, x1, Q, rfl, hτ, rfl, hyp, hK⟩ := hT
    exact Nat.le_of_ble_eq_true rfl
  · obtain ⟨τ, x1, Q, rfl, hτ, rfl, hyp, hK⟩ := hT
    unfold t_yX9_dip at hyp
    show cr_V Γ 0 [.ref 200, .int x1] [] I (cr_rf τ) 247
    refine cr_aload_n h (j := 0) rfl rfl dX9_dip_0 ?_
    refine cr_iload_n h (j := 1) rfl rfl dX9_dip_1 ?_
    refine cr_callV h (c0 := 9) (T0 := TX9) C_yX9_isLorry cZ_yX9_isLorry wm_X9_265 wv_yX9_isLorry we_yX9_isLorry (by decide) rfl rfl (cr_rmS (by decide) (by decide)) (As := [.int x1]) rfl (Nat.le_of_ble_eq_true rfl) dX9_dip_2 ⟨τ, x1, rfl, hτ, rfl, ?_⟩
    show cr_V Γ 5 [.ref 200, .int x1] [.int (f_yX9_isLorry τ x1 I)] I (cr_rf τ) 247
    refine cr_if_ne h (tgt := 11) (by decide) dX9_dip_5 (fun c1 => ?_) (fun c1 => ?_)
    · have hyp := hyp.1 c1
      refine cr_aload_n h (j := 0) rfl rfl dX9_dip_11 ?_
      refine cr_callV h (c0 := 9) (T0 := TX9) C_yX9_layTold cZ_yX9_layTold wm_X9_319 wv_yX9_layTold we_yX9_layTold (by decide) rfl rfl (cr_rmS (by decide) (by decide)) (As := []) rfl (Nat.le_of_ble_eq_true rfl) dX9_dip_12 ⟨τ, _, rfl, hτ, rfl, hyp, fun J1 hyp => ?_⟩
      show cr_V Γ 15 [.ref 200, .int x1] [] J1 (cr_rf τ) 247
      refine cr_aload_n h (j := 0) rfl rfl dX9_dip_15 ?_
      refine cr_iload_n h (j := 1) rfl rfl dX9_dip_16 ?_
      refine cr_callV h (c0 := 9) (T0 := TX9) C_yX9_dipOf cZ_yX9_dipOf wm_X9_323 wv_yX9_dipOf we_yX9_dipOf (by decide) rfl rfl (cr_rmS (by decide) (by decide)) (As := [.int x1]) rfl (Nat.le_of_ble_eq_true rfl) dX9_dip_17 ⟨τ, x1, rfl, hτ, rfl, hyp.1, ?_⟩
      have hyp := hyp.2
      show cr_V Γ 20 [.ref 200, .int x1] [.int (f_yX9_dipOf τ x1 J1)] J1 (cr_rf τ) 247
      refine cr_iret h rfl rfl rfl dX9_dip_20 ?_
      exact hK _ _ hyp
    · have hyp := hyp.2 c1
      refine cr_bipush h (v := (-2 : Int32)) (by decide) dX9_dip_8 ?_
      refine cr_iret h rfl rfl rfl dX9_dip_10 ?_
      exact hK _ _ hyp
def p_yX9_grows (τ : Nat → Nat) (I : cr_I) : Prop := cr_mtld I
def q_yX9_grows (τ : Nat → Nat) (I : cr_I) (r : Int32) (J : cr_I) : Prop := cr_F cr_PRm I J ∧ r = cr_grS (cr_dpS (cr_mpar I) (I 214 0) (cr_dl (I 214 2)) (I 200 19)) (cr_mn0 I - 1)
theorem bk_yX9_grows_0 {Γ : cr_G} {K : cr_K} {τ : Nat → Nat} {I : cr_I}  (hτ : cr_tau τ)  (h : cr_Ok yX9_grows cX9_grows 3 (some .int) (cr_rm0 5 122) K 247 247 Γ) (hyp : t_yX9_layTold τ I (fun (J1 : cr_I) => cr_V Γ 8 [.ref 200, .int (0 : Int32), .int (1 : Int32)] [] J1 (cr_rf τ) 247)) : cr_V Γ 0 [.ref 200, .null, .null] [] I (cr_rf τ) 247 := by
  refine cr_aload_n h (j := 0) rfl rfl dX9_grows_0 ?_
  refine cr_callV h (c0 := 9) (T0 := TX9) C_yX9_layTold cZ_yX9_layTold wm_X9_319 wv_yX9_layTold we_yX9_layTold (by decide) rfl rfl (cr_rmS (by decide) (by decide)) (As := []) rfl (Nat.le_of_ble_eq_true rfl) dX9_grows_1 ⟨τ, _, rfl, hτ, rfl, hyp, fun J1 hyp => ?_⟩
  show cr_V Γ 4 [.ref 200, .null, .null] [] J1 (cr_rf τ) 247
  refine cr_iconst h (v := (0 : Int32)) (by decide) dX9_grows_4 ?_
  refine cr_istore_n h (j := 1) rfl (by decide) rfl dX9_grows_5 ?_
  show cr_V Γ 6 [.ref 200, .int (0 : Int32), .null] [] J1 (cr_rf τ) 247
  refine cr_iconst h (v := (1 : Int32)) (by decide) dX9_grows_6 ?_
  refine cr_istore_n h (j := 2) rfl (by decide) rfl dX9_grows_7 ?_
  show cr_V Γ 8 [.ref 200, .int (0 : Int32), .int (1 : Int32)] [] J1 (cr_rf τ) 247
  exact cr_weak [true, true, true] hyp
theorem bk_yX9_grows_8 {Γ : cr_G} {K : cr_K} {τ : Nat → Nat} {I : cr_I} {x1 : Int32} {x2 : Int32} (hτ : cr_tau τ)  (h : cr_Ok yX9_grows cX9_grows 3 (some .int) (cr_rm0 5 122) K 247 247 Γ) (hyp : ((I 200 13) ≤ x2 → K (some (.int x1)) I (cr_rf τ)) ∧ (¬ (I 200 13) ≤ x2 → (p_yX9_dipOf τ x2 I ∧ p_yX9_dipOf τ (x2 - (1 : Int32)) I ∧ (∀ v1 : Int32, v1 = (x1 ||| (if (f_yX9_dipOf τ x2 I) ≤ (f_yX9_dipOf τ (x2 - (1 : Int32)) I) then (0 : Int32) else ((1 : Int32) <<< (x2 &&& 31)))) → (∀ v2 : Int32, v2 = x2 + (1 : Int32) → cr_V Γ 8 [.ref 200, .int v1, .int v2] [] I (cr_rf τ) 247))))) : cr_V Γ 8 [.ref 200, .int x1, .int x2] [] I (cr_rf τ) 247 := by
  refine cr_iload_n h (j := 2) rfl rfl dX9_grows_8 ?_
  refine cr_aload_n h (j := 0) rfl rfl dX9_grows_9 ?_
  refine cr_getI h (k := 13) cr_clsX9 (by decide) rfl rfl wf_X9_46 (by decide) rfl dX9_grows_10 ?_
  refine cr_icmp_ge h (tgt := 47) (by decide) dX9_grows_13 (fun c1 => ?_) (fun c1 => ?_)
  · have hyp := hyp.1 c1
    refine cr_iload_n h (j := 1) rfl rfl dX9_grows_47 ?_
    refine cr_iret h rfl rfl rfl dX9_grows_48 ?_
    exact hyp
  · have hyp := hyp.2 c1
    refine cr_iload_n h (j := 1) rfl rfl dX9_grows_16 ?_
    refine cr_aload_n h (j := 0) rfl rfl dX9_grows_17 ?_
    refine cr_iload_n h (j := 2) rfl rfl dX9_grows_18 ?_
    refine cr_callV h (c0 := 9) (T0 := TX9) C_yX9_dipOf cZ_yX9_dipOf wm_X9_323 wv_yX9_dipOf we_yX9_dipOf (by decide) rfl rfl (cr_rmS (by decide) (by decide)) (As := [.int x2]) rfl (Nat.le_of_ble_eq_true rfl) dX9_grows_19 ⟨τ, x2, rfl, hτ, rfl, hyp.1, ?_⟩
    have hyp := hyp.2
    show cr_V Γ 22 [.ref 200, .int x1, .int x2] [.int (f_yX9_dipOf τ x2 I), .int x1] I (cr_rf τ) 247
    refine cr_aload_n h (j := 0) rfl rfl dX9_grows_22 ?_
    refine cr_iload_n h (j := 2) rfl rfl dX9_grows_23 ?_
    refine cr_iconst h (v := (1 : Int32)) (by decide) dX9_grows_24 ?_
    refine cr_isub h dX9_grows_25 ?_
    refine cr_callV h (c0 := 9) (T0 := TX9) C_yX9_dipOf cZ_yX9_dipOf wm_X9_323 wv_yX9_dipOf we_yX9_dipOf (by decide) rfl rfl (cr_rmS (by decide) (by decide)) (As := [.int (x2 - (1 : Int32))]) rfl (Nat.le_of_ble_eq_true rfl) dX9_grows_26 ⟨τ, (x2 - (1 : Int32)), rfl, hτ, rfl, hyp.1, ?_⟩
    have hyp := hyp.2
    show cr_V Γ 29 [.ref 200, .int x1, .int x2] [.int (f_yX9_dipOf τ (x2 - (1 : Int32)) I), .int (f_yX9_dipOf τ x2 I), .int x1] I (cr_rf τ) 247
    have J2 : cr_V Γ 39 [.ref 200, .int x1, .int x2] [.int (if (f_yX9_dipOf τ x2 I) ≤ (f_yX9_dipOf τ (x2 - (1 : Int32)) I) then (0 : Int32) else ((1 : Int32) <<< (x2 &&& 31))), .int x1] I (cr_rf τ) 247 := by
      refine cr_ior h dX9_grows_39 ?_
      refine cs_i_n h 1 rfl (by decide) rfl dX9_grows_40 (fun v1 ev1 => ?_)
      have hyp := hyp v1 ev1
      show cr_V Γ 41 [.ref 200, .int v1, .int x2] [] I (cr_rf τ) 247
      refine cs_inc h (v := (1 : Int32)) 2 rfl (by decide) (by decide) rfl dX9_grows_41 (fun v2 ev2 => ?_)
      have hyp := hyp v2 ev2
      show cr_V Γ 44 [.ref 200, .int v1, .int v2] [] I (cr_rf τ) 247
      refine cr_goto h (tgt := 8) (by decide) dX9_grows_44 ?_
      exact cr_weak [true, true, true] hyp
    refine cr_icmp_le h (tgt := 38) (by decide) dX9_grows_29 (fun c2 => ?_) (fun c2 => ?_)
    · refine cr_iconst h (v := (0 : Int32)) (by decide) dX9_grows_38 ?_
      exact cr_ite (by rw [if_pos c2]) J2
    · refine cr_iconst h (v := (1 : Int32)) (by decide) dX9_grows_32 ?_
      refine cr_iload_n h (j := 2) rfl rfl dX9_grows_33 ?_
      refine cr_ishl h dX9_grows_34 ?_
      refine cr_goto h (tgt := 39) (by decide) dX9_grows_35 ?_
      exact cr_ite (by rw [if_neg c2]) J2
abbrev T_yX9_grows : cr_T := fun vs I R K => ∃ (τ : Nat → Nat), R = cr_rf τ ∧ cr_tau τ ∧ vs = [.ref 200] ∧ p_yX9_grows τ I ∧ ∀ (r : Int32) J, q_yX9_grows τ I r J → K (some (.int r)) J (cr_rf τ)
abbrev S_yX9_grows : Prop := cr_C yX9_grows cX9_grows 3 (some .int) (cr_rm0 5 122) 247 247 T_yX9_grows
theorem G_yX9_grows (H : ∀ (Γ : cr_G) (K : cr_K) (τ : Nat → Nat) (I : cr_I), cr_tau τ → cr_Ok yX9_grows cX9_grows 3 (some .int) (cr_rm0 5 122) K 247 247 Γ → p_yX9_grows τ I → (∀ (r : Int32) J, q_yX9_grows τ I r J → K (some (.int r)) J (cr_rf τ)) → cr_V Γ 0 [.ref 200, .null, .null] [] I (cr_rf τ) 247) : cr_C yX9_grows cX9_grows 3 (some .int) (cr_rm0 5 122) 247 247 T_yX9_grows := by
  refine cr_C.of (by decide +kernel) (fun vs I R K hT => ?_) (fun Γ K h vs I R hT => ?_)
  · obtain ⟨τ, rfl, hτ, rfl, hp, hK⟩ := hT
    exact Nat.le_of_ble_eq_true rfl
  · obtain ⟨τ, rfl, hτ, rfl, hp, hK⟩ := hT
    exact H Γ K τ I hτ h hp hK
theorem C_yX9_grows : S_yX9_grows := G_yX9_grows (by
  intro Γ K τ I hτ h hp hK
  obtain ⟨eN, h1, h6⟩ := hp.1.1.un
  unfold q_yX9_grows at hK
  refine bk_yX9_grows_0 hτ h (cw_mtold hp fun J hf hc => ?_)
  have hpn : pn (cr_mpar I) = cr_mn0 I := rfl
  have hps : J 214 1 = ps0 (cr_mpar I) := hf 214 1 (by unfold cr_PRm; omega)
  have eJ : J 200 13 = nI (cr_mn0 I) := by rw [cr_PRm_f hf (k := 13) (by decide)]; exact eN
  generalize cr_mpar I = pp at *
  generalize cr_mn0 I = n at *
  refine cr_loop (fun m => cr_V Γ 8 [.ref 200, .int (cr_grS (cr_dpS pp (I 214 0) (cr_dl (I 214 2)) (I 200 19)) m), .int (nI (m + 1))] [] J (cr_rf τ) 247) (n - 1) ?_ ?_ 0 (Nat.zero_le _)
  · refine bk_yX9_grows_8 hτ h ⟨fun _ => hK _ _ ⟨hf, rfl⟩, fun z => absurd ?_ z⟩
    rw [eJ, show n - 1 + 1 = n by omega]; exact Int32.le_refl _
  · intro m hm ih
    have d1 := hc.dip (τ := τ) (i := m + 1) hps (by omega) (by omega)
    have d0 := hc.dip (τ := τ) (i := m) hps (by omega) (by omega)
    refine bk_yX9_grows_8 hτ h ⟨fun z => absurd z ?_, fun _ => ?_⟩
    · rw [eJ]; exact cr_nle (by omega) (by omega)
    · rw [nI_pred]
      refine ⟨d1.1, d0.1, ?_⟩
      rw [d1.2, d0.2]
      rintro v rfl w rfl
      rw [nI_1]
      rw [cr_grS] at ih
      by_cases q : cr_dpS pp (I 214 0) (cr_dl (I 214 2)) (I 200 19) (m + 1) ≤ cr_dpS pp (I 214 0) (cr_dl (I 214 2)) (I 200 19) m
      · rw [if_pos q] at ih ⊢
        rw [Int32.or_zero]
        exact ih
      · rw [if_neg q] at ih ⊢
        exact ih)
def p_yX9_worstOf (τ : Nat → Nat) (x1 x2 x3 : Int32) (I : cr_I) : Prop := cr_mok I ∧ (0 ≤ x2.toInt ∧ x2.toInt ≤ 4) ∧ (0 ≤ x3.toInt ∧ x3.toInt ≤ 2)
def q_yX9_worstOf (τ : Nat → Nat) (x1 x2 x3 : Int32) (I : cr_I) (r : Int32) (J : cr_I) : Prop := cr_F cr_PRm I J ∧ r = cr_wF (cr_gW (cr_mpar I) x1 x3.toNatClampNeg) 0 (x2.toNatClampNeg + 1)
theorem bk_yX9_worstOf_0 {Γ : cr_G} {K : cr_K} {τ : Nat → Nat} {I : cr_I} {x1 : Int32} {x2 : Int32} {x3 : Int32} (hτ : cr_tau τ)  (h : cr_Ok yX9_worstOf cX9_worstOf 6 (some .int) (cr_rm0 4 102) K 247 247 Γ) (hyp : cr_V Γ 3 [.ref 200, .int x1, .int x2, .int x3, .int (0 : Int32), .null] [] I (cr_rf τ) 247) : cr_V Γ 0 [.ref 200, .int x1, .int x2, .int x3, .null, .null] [] I (cr_rf τ) 247 := by
  refine cr_iconst h (v := (0 : Int32)) (by decide) dX9_worstOf_0 ?_
  refine cr_istore h (by decide) rfl dX9_worstOf_1 ?_
  show cr_V Γ 3 [.ref 200, .int x1, .int x2, .int x3, .int (0 : Int32), .null] [] I (cr_rf τ) 247
  exact cr_weak [true, true, true, true, true, false] hyp
theorem bk_yX9_worstOf_3 {Γ : cr_G} {K : cr_K} {τ : Nat → Nat} {I : cr_I} {x1 : Int32} {x2 : Int32} {x3 : Int32} {x4 : Int32} (hτ : cr_tau τ)  (h : cr_Ok yX9_worstOf cX9_worstOf 6 (some .int) (cr_rm0 4 102) K 247 247 Γ) (hyp : (x2 < x4 → K (some (.int (-1 : Int32))) I (cr_rf τ)) ∧ (¬ x2 < x4 → cr_V Γ 12 [.ref 200, .int x1, .int x2, .int x3, .int x4, .int (0 : Int32)] [] I (cr_rf τ) 247)) : cr_V Γ 3 [.ref 200, .int x1, .int x2, .int x3, .int x4, .null] [] I (cr_rf τ) 247 := by
  refine cr_iload h rfl dX9_worstOf_3 ?_
  refine cr_iload_n h (j := 2) rfl rfl dX9_worstOf_5 ?_
  refine cr_icmp_gt h (tgt := 68) (by decide) dX9_worstOf_6 (fun c1 => ?_) (fun c1 => ?_)
  · have hyp := hyp.1 c1
    refine cr_iconst h (v := (-1 : Int32)) (by decide) dX9_worstOf_68 ?_
    refine cr_iret h rfl rfl rfl dX9_worstOf_69 ?_
    exact hyp
  · have hyp := hyp.2 c1
    refine cr_iconst h (v := (0 : Int32)) (by decide) dX9_worstOf_9 ?_
    refine cr_istore h (by decide) rfl dX9_worstOf_10 ?_
    show cr_V Γ 12 [.ref 200, .int x1, .int x2, .int x3, .int x4, .int (0 : Int32)] [] I (cr_rf τ) 247
    exact cr_weak [true, true, true, true, true, true] hyp
theorem bk_yX9_worstOf_12 {Γ : cr_G} {K : cr_K} {τ : Nat → Nat} {I : cr_I} {x1 : Int32} {x2 : Int32} {x3 : Int32} {x4 : Int32} {x5 : Int32} (hτ : cr_tau τ)  (h : cr_Ok yX9_worstOf cX9_worstOf 6 (some .int) (cr_rm0 4 102) K 247 247 Γ) (hyp : ((256 : Int32) ≤ x5 → (∀ v1 : Int32, v1 = x4 + (1 : Int32) → cr_V Γ 3 [.ref 200, .int x1, .int x2, .int x3, .int v1, .null] [] I (cr_rf τ) 247)) ∧ (¬ (256 : Int32) ≤ x5 → (p_yX9_bits τ x5 I ∧ (x3 < (f_yX9_bits τ x5 I) → (∀ v2 : Int32, v2 = x5 + (1 : Int32) → cr_V Γ 12 [.ref 200, .int x1, .int x2, .int x3, .int x4, .int v2] [] I (cr_rf τ) 247)) ∧ (¬ x3 < (f_yX9_bits τ x5 I) → (p_yX9_layRun τ x1 x4 x5 I ∧ (∀ (J1 : cr_I), q_yX9_layRun τ x1 x4 x5 I J1 → (((J1 200 55) = (-1 : Int32) → (∀ v3 : Int32, v3 = x5 + (1 : Int32) → cr_V Γ 12 [.ref 200, .int x1, .int x2, .int x3, .int x4, .int v3] [] J1 (cr_rf τ) 247)) ∧ (¬ (J1 200 55) = (-1 : Int32) → K (some (.int (((256 : Int32) * x4) + x5))) J1 (cr_rf τ))))))))) : cr_V Γ 12 [.ref 200, .int x1, .int x2, .int x3, .int x4, .int x5] [] I (cr_rf τ) 247 := by
  refine cr_iload h rfl dX9_worstOf_12 ?_
  refine cr_sipush h (v := (256 : Int32)) (by decide) dX9_worstOf_14 ?_
  refine cr_icmp_ge h (tgt := 62) (by decide) dX9_worstOf_17 (fun c2 => ?_) (fun c2 => ?_)
  · have hyp := hyp.1 c2
    refine cs_inc h (v := (1 : Int32)) 4 rfl (by decide) (by decide) rfl dX9_worstOf_62 (fun v1 ev1 => ?_)
    have hyp := hyp v1 ev1
    show cr_V Γ 65 [.ref 200, .int x1, .int x2, .int x3, .int v1, .int x5] [] I (cr_rf τ) 247
    refine cr_goto h (tgt := 3) (by decide) dX9_worstOf_65 ?_
    exact cr_weak [true, true, true, true, true, false] hyp
  · have hyp := hyp.2 c2
    refine cr_iload h rfl dX9_worstOf_20 ?_
    refine cr_callS h C_yX9_bits cZ_yX9_bits wm_X9_326 ws_yX9_bits (cr_rmS (by decide) (by decide)) (As := [.int x5]) rfl (Nat.le_of_ble_eq_true rfl) dX9_worstOf_22 ⟨τ, x5, rfl, hτ, rfl, hyp.1, ?_⟩
    have hyp := hyp.2
    show cr_V Γ 25 [.ref 200, .int x1, .int x2, .int x3, .int x4, .int x5] [.int (f_yX9_bits τ x5 I)] I (cr_rf τ) 247
    refine cr_iload_n h (j := 3) rfl rfl dX9_worstOf_25 ?_
    refine cr_icmp_gt h (tgt := 56) (by decide) dX9_worstOf_26 (fun c3 => ?_) (fun c3 => ?_)
    · have hyp := hyp.1 c3
      refine cs_inc h (v := (1 : Int32)) 5 rfl (by decide) (by decide) rfl dX9_worstOf_56 (fun v2 ev2 => ?_)
      have hyp := hyp v2 ev2
      show cr_V Γ 59 [.ref 200, .int x1, .int x2, .int x3, .int x4, .int v2] [] I (cr_rf τ) 247
      refine cr_goto h (tgt := 12) (by decide) dX9_worstOf_59 ?_
      exact cr_weak [true, true, true, true, true, true] hyp
    · have hyp := hyp.2 c3
      refine cr_aload_n h (j := 0) rfl rfl dX9_worstOf_29 ?_
      refine cr_iload_n h (j := 1) rfl rfl dX9_worstOf_30 ?_
      refine cr_iload h rfl dX9_worstOf_31 ?_
      refine cr_iload h rfl dX9_worstOf_33 ?_
      refine cr_callV h (c0 := 9) (T0 := TX9) C_yX9_layRun cZ_yX9_layRun wm_X9_315 wv_yX9_layRun we_yX9_layRun (by decide) rfl rfl (cr_rmS (by decide) (by decide)) (As := [.int x1, .int x4, .int x5]) rfl (Nat.le_of_ble_eq_true rfl) dX9_worstOf_35 ⟨τ, x1, x4, x5, rfl, hτ, rfl, hyp.1, fun J1 q1 => ?_⟩
      have hyp := hyp.2 J1 q1
      show cr_V Γ 38 [.ref 200, .int x1, .int x2, .int x3, .int x4, .int x5] [] J1 (cr_rf τ) 247
      refine cr_aload_n h (j := 0) rfl rfl dX9_worstOf_38 ?_
      refine cr_getI h (k := 55) cr_clsX9 (by decide) rfl rfl wf_X9_284 (by decide) rfl dX9_worstOf_39 ?_
      refine cr_iconst h (v := (-1 : Int32)) (by decide) dX9_worstOf_42 ?_
      refine cr_icmp_eq h (tgt := 56) (by decide) dX9_worstOf_43 (fun c4 => ?_) (fun c4 => ?_)
      · have hyp := hyp.1 c4
        refine cs_inc h (v := (1 : Int32)) 5 rfl (by decide) (by decide) rfl dX9_worstOf_56 (fun v3 ev3 => ?_)
        have hyp := hyp v3 ev3
        show cr_V Γ 59 [.ref 200, .int x1, .int x2, .int x3, .int x4, .int v3] [] J1 (cr_rf τ) 247
        refine cr_goto h (tgt := 12) (by decide) dX9_worstOf_59 ?_
        exact cr_weak [true, true, true, true, true, true] hyp
      · have hyp := hyp.2 c4
        refine cr_sipush h (v := (256 : Int32)) (by decide) dX9_worstOf_46 ?_
        refine cr_iload h rfl dX9_worstOf_49 ?_
        refine cr_imul h dX9_worstOf_51 ?_
        refine cr_iload h rfl dX9_worstOf_52 ?_
        refine cr_iadd h dX9_worstOf_54 ?_
        refine cr_iret h rfl rfl rfl dX9_worstOf_55 ?_
        exact hyp
abbrev T_yX9_worstOf : cr_T := fun vs I R K => ∃ (τ : Nat → Nat) (x1 : Int32) (x2 : Int32) (x3 : Int32), R = cr_rf τ ∧ cr_tau τ ∧ vs = [.ref 200, .int x1, .int x2, .int x3] ∧ p_yX9_worstOf τ x1 x2 x3 I ∧ ∀ (r : Int32) J, q_yX9_worstOf τ x1 x2 x3 I r J → K (some (.int r)) J (cr_rf τ)
abbrev S_yX9_worstOf : Prop := cr_C yX9_worstOf cX9_worstOf 6 (some .int) (cr_rm0 4 102) 247 247 T_yX9_worstOf
theorem G_yX9_worstOf (H : ∀ (Γ : cr_G) (K : cr_K) (τ : Nat → Nat) (x1 : Int32) (x2 : Int32) (x3 : Int32) (I : cr_I), cr_tau τ → cr_Ok yX9_worstOf cX9_worstOf 6 (some .int) (cr_rm0 4 102) K 247 247 Γ → p_yX9_worstOf τ x1 x2 x3 I → (∀ (r : Int32) J, q_yX9_worstOf τ x1 x2 x3 I r J → K (some (.int r)) J (cr_rf τ)) → cr_V Γ 0 [.ref 200, .int x1, .int x2, .int x3, .null, .null] [] I (cr_rf τ) 247) : cr_C yX9_worstOf cX9_worstOf 6 (some .int) (cr_rm0 4 102) 247 247 T_yX9_worstOf := by
  refine cr_C.of (by decide +kernel) (fun vs I R K hT => ?_) (fun Γ K h vs I R hT => ?_)
  · obtain ⟨τ, x1, x2, x3, rfl, hτ, rfl, hp, hK⟩ := hT
    exact Nat.le_of_ble_eq_true rfl
  · obtain ⟨τ, x1, x2, x3, rfl, hτ, rfl, hp, hK⟩ := hT
    exact H Γ K τ x1 x2 x3 I hτ h hp hK
theorem C_yX9_worstOf : S_yX9_worstOf := G_yX9_worstOf (by
  intro Γ K τ x1 x2 x3 I hτ h hp hK
  obtain ⟨hok, hw, hl⟩ := hp
  obtain ⟨e2, hw4⟩ := cr_ofI (B := 4) hw.1 hw.2
  obtain ⟨e3, hl2⟩ := cr_ofI (B := 2) hl.1 hl.2
  unfold q_yX9_worstOf at hK
  have hpar : ∀ {J : cr_I}, cr_F cr_PRm I J → cr_mpar J = cr_mpar I := fun hf => cr_mpar_fr hf
  generalize x2.toNatClampNeg = w at *
  generalize x3.toNatClampNeg = l at *
  generalize cr_mpar I = pp at *
  have hdl : ∀ v, v ≤ 4 → cr_dl (nI v) = cr_dlN v := fun v hv => by unfold cr_dl cr_dlN; rw [cr_nc (by omega)]
  have inner : ∀ v, v ≤ 4 → ∀ J, cr_F cr_PRm I J → (∀ gone, cr_gW pp x1 l v = some gone → ∀ J', cr_F cr_PRm I J' → K (some (.int (nI (256 * v + gone)))) J' (cr_rf τ)) → (cr_gW pp x1 l v = none → ∀ J', cr_F cr_PRm I J' → cr_V Γ 3 [.ref 200, .int x1, .int (nI w), .int (nI l), .int (nI (v + 1)), .null] [] J' (cr_rf τ) 247) → cr_V Γ 12 [.ref 200, .int x1, .int (nI w), .int (nI l), .int (nI v), .int (0 : Int32)] [] J (cr_rf τ) 247 := by
    intro v hv J hfJ k1 k0
    have key : ∀ m q, q + m = 256 → ∀ J, cr_F cr_PRm I J → cr_gW pp x1 l v = cr_firstS (fun m => decide (cr_pc m ≤ l) && cr_tch pp x1 (cr_dlN v) (nI m)) q m → cr_V Γ 12 [.ref 200, .int x1, .int (nI w), .int (nI l), .int (nI v), .int (nI q)] [] J (cr_rf τ) 247 := by
      intro m
      induction m with
      | zero =>
        intro q hq J hf he
        refine bk_yX9_worstOf_12 hτ h ⟨fun _ => ?_, fun z => absurd (by rw [show q = 256 by omega]; decide) z⟩
        rintro v2 rfl
        rw [nI_1]
        exact k0 he J hf
      | succ m ih =>
        intro q hq J hf he
        rw [cr_firstS] at he
        refine bk_yX9_worstOf_12 hτ h ⟨fun z => absurd z (nI_ge (a := q) (b := 256) (by omega) (by omega)), fun _ => ⟨trivial, ?_⟩⟩
        have hpc : cr_pc q ≤ 8 := by unfold cr_pc; omega
        unfold f_yX9_bits
        rw [cr_bs q (by omega), cr_nlt (by omega) (by omega)]
        refine ⟨fun c => ?_, fun c => ⟨⟨hok.fr hf, by rw [cr_nt (by omega)]; omega⟩, fun J1 hq1 => ?_⟩⟩
        · rintro v3 rfl
          rw [nI_1]
          refine ih (q + 1) (by omega) J hf ?_
          rw [he, if_neg]
          rw [decide_eq_false (by omega), Bool.false_and]
          decide
        · obtain ⟨hf1, hv1⟩ := hq1
          rw [hpar hf, hdl v hv] at hv1
          have hf1' := hf.tr hf1
          have e55 : J1 200 55 = (cr_tc pp x1 (cr_dlN v) (nI q) 32).1 := congrArg Prod.fst hv1.2.2.2.1
          rw [e55]
          refine ⟨fun c1 => ?_, fun c1 => ?_⟩
          · rw [if_neg (by rw [Bool.and_eq_true]; intro z; have z2 := z.2; unfold cr_tch at z2; rw [decide_eq_true c1] at z2; exact absurd z2 (by decide))] at he
            rintro v4 rfl
            rw [nI_1]
            exact ih (q + 1) (by omega) J1 hf1' he
          · rw [if_pos (by rw [decide_eq_true (by omega)]; unfold cr_tch; rw [decide_eq_false c1]; rfl)] at he
            rw [show (256 : Int32) = nI 256 from rfl, pk_mul, nI_add]
            exact k1 q he J1 hf1'
    exact key 256 0 rfl J hfJ rfl
  have outer : ∀ m v, v + m = w + 1 → ∀ J, cr_F cr_PRm I J → cr_wF (cr_gW pp x1 l) 0 (w + 1) = cr_wF (cr_gW pp x1 l) v m → cr_V Γ 3 [.ref 200, .int x1, .int (nI w), .int (nI l), .int (nI v), .null] [] J (cr_rf τ) 247 := by
    intro m
    induction m with
    | zero =>
      intro v hv J hf he
      exact bk_yX9_worstOf_3 hτ h ⟨fun _ => hK _ _ ⟨hf, by rw [he]; rfl⟩, fun z => absurd ((cr_nlt (by omega) (by omega)).mpr (by omega)) z⟩
    | succ m ih =>
      intro v hv J hf he
      refine bk_yX9_worstOf_3 hτ h ⟨fun z => absurd ((cr_nlt (by omega) (by omega)).mp z) (by omega), fun _ => ?_⟩
      refine inner v (by omega) J hf (fun gone hg J' hf' => ?_) (fun hg J' hf' => ?_)
      · exact hK _ _ ⟨hf', (he.trans (cr_wF_s hg)).symm⟩
      · exact ih (v + 1) (by omega) J' hf' (he.trans (cr_wF_n hg))
  refine bk_yX9_worstOf_0 hτ h ?_
  rw [e2, e3]
  exact outer (w + 1) 0 (by omega) I cr_F.rf rfl)
def t_yX9_safe (τ : Nat → Nat) (x1 : Int32) (x2 : Int32) (x3 : Int32) (I : cr_I) (Q : Int32 → cr_I → Prop) : Prop := ((f_yX9_in τ x1.toInt64 (1 : Int64) (99 : Int64) I) = 0 → Q (-3 : Int32) I) ∧ (¬ (f_yX9_in τ x1.toInt64 (1 : Int64) (99 : Int64) I) = 0 → ((¬ (f_yX9_areMishaps τ x2 x3 I) = 0 → (p_yX9_worstOf τ x1 x2 x3 I ∧ (∀ (r1 : Int32) (J1 : cr_I), q_yX9_worstOf τ x1 x2 x3 I r1 J1 → ((¬ r1 = (-1 : Int32) → Q (0 : Int32) J1) ∧ (r1 = (-1 : Int32) → Q (1 : Int32) J1))))) ∧ ((f_yX9_areMishaps τ x2 x3 I) = 0 → Q (-3 : Int32) I)))
abbrev T_yX9_safe : cr_T := fun vs I R K => ∃ (τ : Nat → Nat) (x1 : Int32) (x2 : Int32) (x3 : Int32) (Q : Int32 → cr_I → Prop), R = cr_rf τ ∧ cr_tau τ ∧ vs = [.ref 200, .int x1, .int x2, .int x3] ∧ t_yX9_safe τ x1 x2 x3 I Q ∧ ∀ r J, Q r J → K (some (.int r)) J (cr_rf τ)
theorem C_yX9_safe : cr_C yX9_safe cX9_safe 4 (some .int) (cr_rm0 5 127) 247 247 T_yX9_safe := by
  refine cr_C.of (by decide +kernel) (fun vs I R K hT => ?_) (fun Γ K h vs I R hT => ?_)
  · obtain ⟨τ, x1, x2, x3, Q, rfl, hτ, rfl, hyp, hK⟩ := hT
    exact Nat.le_of_ble_eq_true rfl
  · obtain ⟨τ, x1, x2, x3, Q, rfl, hτ, rfl, hyp, hK⟩ := hT
    unfold t_yX9_safe at hyp
    show cr_V Γ 0 [.ref 200, .int x1, .int x2, .int x3] [] I (cr_rf τ) 247
    refine cr_iload_n h (j := 1) rfl rfl dX9_safe_0 ?_
    refine cr_i2l h dX9_safe_1 ?_
    refine cr_lconst h (v := (1 : Int64)) (by decide) dX9_safe_2 ?_
    refine cr_ldc2 h wc_X9_250 dX9_safe_3 ?_
    refine cr_callS h C_yX9_in cZ_yX9_in wm_X9_154 ws_yX9_in (cr_rmS (by decide) (by decide)) (As := [.long x1.toInt64, .long (1 : Int64), .long (99 : Int64)]) rfl (Nat.le_of_ble_eq_true rfl) dX9_safe_6 ⟨τ, x1.toInt64, (1 : Int64), (99 : Int64), rfl, hτ, rfl, ?_⟩
    show cr_V Γ 9 [.ref 200, .int x1, .int x2, .int x3] [.int (f_yX9_in τ x1.toInt64 (1 : Int64) (99 : Int64) I)] I (cr_rf τ) 247
    refine cr_if_eq h (tgt := 20) (by decide) dX9_safe_9 (fun c1 => ?_) (fun c1 => ?_)
    · have hyp := hyp.1 c1
      refine cr_bipush h (v := (-3 : Int32)) (by decide) dX9_safe_20 ?_
      refine cr_goto h (tgt := 41) (by decide) dX9_safe_22 ?_
      refine cr_iret h rfl rfl rfl dX9_safe_41 ?_
      exact hK _ _ hyp
    · have hyp := hyp.2 c1
      refine cr_iload_n h (j := 2) rfl rfl dX9_safe_12 ?_
      refine cr_iload_n h (j := 3) rfl rfl dX9_safe_13 ?_
      refine cr_callS h C_yX9_areMishaps cZ_yX9_areMishaps wm_X9_331 ws_yX9_areMishaps (cr_rmS (by decide) (by decide)) (As := [.int x2, .int x3]) rfl (Nat.le_of_ble_eq_true rfl) dX9_safe_14 ⟨τ, x2, x3, rfl, hτ, rfl, ?_⟩
      show cr_V Γ 17 [.ref 200, .int x1, .int x2, .int x3] [.int (f_yX9_areMishaps τ x2 x3 I)] I (cr_rf τ) 247
      refine cr_if_ne h (tgt := 25) (by decide) dX9_safe_17 (fun c2 => ?_) (fun c2 => ?_)
      · have hyp := hyp.1 c2
        refine cr_aload_n h (j := 0) rfl rfl dX9_safe_25 ?_
        refine cr_iload_n h (j := 1) rfl rfl dX9_safe_26 ?_
        refine cr_iload_n h (j := 2) rfl rfl dX9_safe_27 ?_
        refine cr_iload_n h (j := 3) rfl rfl dX9_safe_28 ?_
        refine cr_callV h (c0 := 9) (T0 := TX9) C_yX9_worstOf cZ_yX9_worstOf wm_X9_334 wv_yX9_worstOf we_yX9_worstOf (by decide) rfl rfl (cr_rmS (by decide) (by decide)) (As := [.int x1, .int x2, .int x3]) rfl (Nat.le_of_ble_eq_true rfl) dX9_safe_29 ⟨τ, x1, x2, x3, rfl, hτ, rfl, hyp.1, fun r1 J1 q1 => ?_⟩
        have hyp := hyp.2 r1 J1 q1
        show cr_V Γ 32 [.ref 200, .int x1, .int x2, .int x3] [.int r1] J1 (cr_rf τ) 247
        refine cr_iconst h (v := (-1 : Int32)) (by decide) dX9_safe_32 ?_
        refine cr_icmp_ne h (tgt := 40) (by decide) dX9_safe_33 (fun c3 => ?_) (fun c3 => ?_)
        · have hyp := hyp.1 c3
          refine cr_iconst h (v := (0 : Int32)) (by decide) dX9_safe_40 ?_
          refine cr_iret h rfl rfl rfl dX9_safe_41 ?_
          exact hK _ _ hyp
        · have hyp := hyp.2 c3
          refine cr_iconst h (v := (1 : Int32)) (by decide) dX9_safe_36 ?_
          refine cr_goto h (tgt := 41) (by decide) dX9_safe_37 ?_
          refine cr_iret h rfl rfl rfl dX9_safe_41 ?_
          exact hK _ _ hyp
      · have hyp := hyp.2 c2
        refine cr_bipush h (v := (-3 : Int32)) (by decide) dX9_safe_20 ?_
        refine cr_goto h (tgt := 41) (by decide) dX9_safe_22 ?_
        refine cr_iret h rfl rfl rfl dX9_safe_41 ?_
        exact hK _ _ hyp
def t_yX9_worst (τ : Nat → Nat) (x1 : Int32) (x2 : Int32) (x3 : Int32) (I : cr_I) (Q : Int32 → cr_I → Prop) : Prop := ((f_yX9_in τ x1.toInt64 (1 : Int64) (99 : Int64) I) = 0 → Q (-3 : Int32) I) ∧ (¬ (f_yX9_in τ x1.toInt64 (1 : Int64) (99 : Int64) I) = 0 → (((f_yX9_areMishaps τ x2 x3 I) = 0 → Q (-3 : Int32) I) ∧ (¬ (f_yX9_areMishaps τ x2 x3 I) = 0 → (p_yX9_worstOf τ x1 x2 x3 I ∧ (∀ (r1 : Int32) (J1 : cr_I), q_yX9_worstOf τ x1 x2 x3 I r1 J1 → Q r1 J1)))))
abbrev T_yX9_worst : cr_T := fun vs I R K => ∃ (τ : Nat → Nat) (x1 : Int32) (x2 : Int32) (x3 : Int32) (Q : Int32 → cr_I → Prop), R = cr_rf τ ∧ cr_tau τ ∧ vs = [.ref 200, .int x1, .int x2, .int x3] ∧ t_yX9_worst τ x1 x2 x3 I Q ∧ ∀ r J, Q r J → K (some (.int r)) J (cr_rf τ)
theorem C_yX9_worst : cr_C yX9_worst cX9_worst 4 (some .int) (cr_rm0 5 127) 247 247 T_yX9_worst := by
  refine cr_C.of (by decide +kernel) (fun vs I R K hT => ?_) (fun Γ K h vs I R hT => ?_)
  · obtain ⟨τ, x1, x2, x3, Q, rfl, hτ, rfl, hyp, hK⟩ := hT
    exact Nat.le_of_ble_eq_true rfl
  · obtain ⟨τ, x1, x2, x3, Q, rfl, hτ, rfl, hyp, hK⟩ := hT
    unfold t_yX9_worst at hyp
    show cr_V Γ 0 [.ref 200, .int x1, .int x2, .int x3] [] I (cr_rf τ) 247
    refine cr_iload_n h (j := 1) rfl rfl dX9_worst_0 ?_
    refine cr_i2l h dX9_worst_1 ?_
    refine cr_lconst h (v := (1 : Int64)) (by decide) dX9_worst_2 ?_
    refine cr_ldc2 h wc_X9_250 dX9_worst_3 ?_
    refine cr_callS h C_yX9_in cZ_yX9_in wm_X9_154 ws_yX9_in (cr_rmS (by decide) (by decide)) (As := [.long x1.toInt64, .long (1 : Int64), .long (99 : Int64)]) rfl (Nat.le_of_ble_eq_true rfl) dX9_worst_6 ⟨τ, x1.toInt64, (1 : Int64), (99 : Int64), rfl, hτ, rfl, ?_⟩
    show cr_V Γ 9 [.ref 200, .int x1, .int x2, .int x3] [.int (f_yX9_in τ x1.toInt64 (1 : Int64) (99 : Int64) I)] I (cr_rf τ) 247
    refine cr_if_eq h (tgt := 30) (by decide) dX9_worst_9 (fun c1 => ?_) (fun c1 => ?_)
    · have hyp := hyp.1 c1
      refine cr_bipush h (v := (-3 : Int32)) (by decide) dX9_worst_30 ?_
      refine cr_iret h rfl rfl rfl dX9_worst_32 ?_
      exact hK _ _ hyp
    · have hyp := hyp.2 c1
      refine cr_iload_n h (j := 2) rfl rfl dX9_worst_12 ?_
      refine cr_iload_n h (j := 3) rfl rfl dX9_worst_13 ?_
      refine cr_callS h C_yX9_areMishaps cZ_yX9_areMishaps wm_X9_331 ws_yX9_areMishaps (cr_rmS (by decide) (by decide)) (As := [.int x2, .int x3]) rfl (Nat.le_of_ble_eq_true rfl) dX9_worst_14 ⟨τ, x2, x3, rfl, hτ, rfl, ?_⟩
      show cr_V Γ 17 [.ref 200, .int x1, .int x2, .int x3] [.int (f_yX9_areMishaps τ x2 x3 I)] I (cr_rf τ) 247
      refine cr_if_eq h (tgt := 30) (by decide) dX9_worst_17 (fun c2 => ?_) (fun c2 => ?_)
      · have hyp := hyp.1 c2
        refine cr_bipush h (v := (-3 : Int32)) (by decide) dX9_worst_30 ?_
        refine cr_iret h rfl rfl rfl dX9_worst_32 ?_
        exact hK _ _ hyp
      · have hyp := hyp.2 c2
        refine cr_aload_n h (j := 0) rfl rfl dX9_worst_20 ?_
        refine cr_iload_n h (j := 1) rfl rfl dX9_worst_21 ?_
        refine cr_iload_n h (j := 2) rfl rfl dX9_worst_22 ?_
        refine cr_iload_n h (j := 3) rfl rfl dX9_worst_23 ?_
        refine cr_callV h (c0 := 9) (T0 := TX9) C_yX9_worstOf cZ_yX9_worstOf wm_X9_334 wv_yX9_worstOf we_yX9_worstOf (by decide) rfl rfl (cr_rmS (by decide) (by decide)) (As := [.int x1, .int x2, .int x3]) rfl (Nat.le_of_ble_eq_true rfl) dX9_worst_24 ⟨τ, x1, x2, x3, rfl, hτ, rfl, hyp.1, fun r1 J1 q1 => ?_⟩
        have hyp := hyp.2 r1 J1 q1
        show cr_V Γ 27 [.ref 200, .int x1, .int x2, .int x3] [.int r1] J1 (cr_rf τ) 247
        refine cr_goto h (tgt := 32) (by decide) dX9_worst_27 ?_
        refine cr_iret h rfl rfl rfl dX9_worst_32 ?_
        exact hK _ _ hyp
theorem cr_mish {τ : Nat → Nat} {x1 x2 : Int32} {I : cr_I} : f_yX9_areMishaps τ x1 x2 I = 0 ↔ ¬ ((0 ≤ x1.toInt ∧ x1.toInt ≤ 4) ∧ (0 ≤ x2.toInt ∧ x2.toInt ≤ 2)) := by
  unfold f_yX9_areMishaps
  have z0 : (0 : Int64).toInt = 0 := rfl
  have z4 : (4 : Int64).toInt = 4 := rfl
  have z2 : (2 : Int64).toInt = 2 := rfl
  simp only [cr_in0, Int32.toInt_toInt64, z0, z4, z2]
  by_cases q1 : 0 ≤ x1.toInt ∧ x1.toInt ≤ 4
  · rw [if_neg (fun z => z q1)]
    by_cases q2 : 0 ≤ x2.toInt ∧ x2.toInt ≤ 2
    · rw [if_neg (fun z => z q2)]; exact ⟨fun z => absurd z (by decide), fun z => absurd ⟨q1, q2⟩ z⟩
    · rw [if_pos q2]; exact ⟨fun _ z => q2 z.2, fun _ => rfl⟩
  · rw [if_pos q1]; exact ⟨fun _ z => q1 z.1, fun _ => rfl⟩
def p_yX9_need (τ : Nat → Nat) (x1 x2 : Int32) (I : cr_I) : Prop := cr_mok I
def q_yX9_need (τ : Nat → Nat) (x1 x2 : Int32) (I : cr_I) (r : Int32) (J : cr_I) : Prop := (¬ ((0 ≤ x1.toInt ∧ x1.toInt ≤ 4) ∧ (0 ≤ x2.toInt ∧ x2.toInt ≤ 2)) ∧ r = -3 ∧ J = I) ∨ (((0 ≤ x1.toInt ∧ x1.toInt ≤ 4) ∧ (0 ≤ x2.toInt ∧ x2.toInt ≤ 2)) ∧ cr_F cr_PRm I J ∧ r = cr_ndS (cr_sfe (cr_mpar I) x1.toNatClampNeg x2.toNatClampNeg) 1 60)
theorem bk_yX9_need_0 {Γ : cr_G} {K : cr_K} {τ : Nat → Nat} {I : cr_I} {x1 : Int32} {x2 : Int32} (hτ : cr_tau τ)  (h : cr_Ok yX9_need cX9_need 4 (some .int) (cr_rm0 5 127) K 247 247 Γ) (hyp : (¬ (f_yX9_areMishaps τ x1 x2 I) = 0 → cr_V Γ 13 [.ref 200, .int x1, .int x2, .int (1 : Int32)] [] I (cr_rf τ) 247) ∧ ((f_yX9_areMishaps τ x1 x2 I) = 0 → K (some (.int (-3 : Int32))) I (cr_rf τ))) : cr_V Γ 0 [.ref 200, .int x1, .int x2, .null] [] I (cr_rf τ) 247 := by
  refine cr_iload_n h (j := 1) rfl rfl dX9_need_0 ?_
  refine cr_iload_n h (j := 2) rfl rfl dX9_need_1 ?_
  refine cr_callS h C_yX9_areMishaps cZ_yX9_areMishaps wm_X9_331 ws_yX9_areMishaps (cr_rmS (by decide) (by decide)) (As := [.int x1, .int x2]) rfl (Nat.le_of_ble_eq_true rfl) dX9_need_2 ⟨τ, x1, x2, rfl, hτ, rfl, ?_⟩
  show cr_V Γ 5 [.ref 200, .int x1, .int x2, .null] [.int (f_yX9_areMishaps τ x1 x2 I)] I (cr_rf τ) 247
  refine cr_if_ne h (tgt := 11) (by decide) dX9_need_5 (fun c1 => ?_) (fun c1 => ?_)
  · have hyp := hyp.1 c1
    refine cr_iconst h (v := (1 : Int32)) (by decide) dX9_need_11 ?_
    refine cr_istore_n h (j := 3) rfl (by decide) rfl dX9_need_12 ?_
    show cr_V Γ 13 [.ref 200, .int x1, .int x2, .int (1 : Int32)] [] I (cr_rf τ) 247
    exact cr_weak [true, true, true, true] hyp
  · have hyp := hyp.2 c1
    refine cr_bipush h (v := (-3 : Int32)) (by decide) dX9_need_8 ?_
    refine cr_iret h rfl rfl rfl dX9_need_10 ?_
    exact hyp
theorem bk_yX9_need_13 {Γ : cr_G} {K : cr_K} {τ : Nat → Nat} {I : cr_I} {x1 : Int32} {x2 : Int32} {x3 : Int32} (hτ : cr_tau τ)  (h : cr_Ok yX9_need cX9_need 4 (some .int) (cr_rm0 5 127) K 247 247 Γ) (hyp : ((60 : Int32) < x3 → K (some (.int (-1 : Int32))) I (cr_rf τ)) ∧ (¬ (60 : Int32) < x3 → (p_yX9_worstOf τ x3 x1 x2 I ∧ (∀ (r1 : Int32) (J1 : cr_I), q_yX9_worstOf τ x3 x1 x2 I r1 J1 → ((¬ r1 = (-1 : Int32) → (∀ v1 : Int32, v1 = x3 + (1 : Int32) → cr_V Γ 13 [.ref 200, .int x1, .int x2, .int v1] [] J1 (cr_rf τ) 247)) ∧ (r1 = (-1 : Int32) → K (some (.int x3)) J1 (cr_rf τ))))))) : cr_V Γ 13 [.ref 200, .int x1, .int x2, .int x3] [] I (cr_rf τ) 247 := by
  refine cr_iload_n h (j := 3) rfl rfl dX9_need_13 ?_
  refine cr_bipush h (v := (60 : Int32)) (by decide) dX9_need_14 ?_
  refine cr_icmp_gt h (tgt := 38) (by decide) dX9_need_16 (fun c2 => ?_) (fun c2 => ?_)
  · have hyp := hyp.1 c2
    refine cr_iconst h (v := (-1 : Int32)) (by decide) dX9_need_38 ?_
    refine cr_iret h rfl rfl rfl dX9_need_39 ?_
    exact hyp
  · have hyp := hyp.2 c2
    refine cr_aload_n h (j := 0) rfl rfl dX9_need_19 ?_
    refine cr_iload_n h (j := 3) rfl rfl dX9_need_20 ?_
    refine cr_iload_n h (j := 1) rfl rfl dX9_need_21 ?_
    refine cr_iload_n h (j := 2) rfl rfl dX9_need_22 ?_
    refine cr_callV h (c0 := 9) (T0 := TX9) C_yX9_worstOf cZ_yX9_worstOf wm_X9_334 wv_yX9_worstOf we_yX9_worstOf (by decide) rfl rfl (cr_rmS (by decide) (by decide)) (As := [.int x3, .int x1, .int x2]) rfl (Nat.le_of_ble_eq_true rfl) dX9_need_23 ⟨τ, x3, x1, x2, rfl, hτ, rfl, hyp.1, fun r1 J1 q1 => ?_⟩
    have hyp := hyp.2 r1 J1 q1
    show cr_V Γ 26 [.ref 200, .int x1, .int x2, .int x3] [.int r1] J1 (cr_rf τ) 247
    refine cr_iconst h (v := (-1 : Int32)) (by decide) dX9_need_26 ?_
    refine cr_icmp_ne h (tgt := 32) (by decide) dX9_need_27 (fun c3 => ?_) (fun c3 => ?_)
    · have hyp := hyp.1 c3
      refine cs_inc h (v := (1 : Int32)) 3 rfl (by decide) (by decide) rfl dX9_need_32 (fun v1 ev1 => ?_)
      have hyp := hyp v1 ev1
      show cr_V Γ 35 [.ref 200, .int x1, .int x2, .int v1] [] J1 (cr_rf τ) 247
      refine cr_goto h (tgt := 13) (by decide) dX9_need_35 ?_
      exact cr_weak [true, true, true, true] hyp
    · have hyp := hyp.2 c3
      refine cr_iload_n h (j := 3) rfl rfl dX9_need_30 ?_
      refine cr_iret h rfl rfl rfl dX9_need_31 ?_
      exact hyp
abbrev T_yX9_need : cr_T := fun vs I R K => ∃ (τ : Nat → Nat) (x1 : Int32) (x2 : Int32), R = cr_rf τ ∧ cr_tau τ ∧ vs = [.ref 200, .int x1, .int x2] ∧ p_yX9_need τ x1 x2 I ∧ ∀ (r : Int32) J, q_yX9_need τ x1 x2 I r J → K (some (.int r)) J (cr_rf τ)
abbrev S_yX9_need : Prop := cr_C yX9_need cX9_need 4 (some .int) (cr_rm0 5 127) 247 247 T_yX9_need
theorem G_yX9_need (H : ∀ (Γ : cr_G) (K : cr_K) (τ : Nat → Nat) (x1 : Int32) (x2 : Int32) (I : cr_I), cr_tau τ → cr_Ok yX9_need cX9_need 4 (some .int) (cr_rm0 5 127) K 247 247 Γ → p_yX9_need τ x1 x2 I → (∀ (r : Int32) J, q_yX9_need τ x1 x2 I r J → K (some (.int r)) J (cr_rf τ)) → cr_V Γ 0 [.ref 200, .int x1, .int x2, .null] [] I (cr_rf τ) 247) : cr_C yX9_need cX9_need 4 (some .int) (cr_rm0 5 127) 247 247 T_yX9_need := by
  refine cr_C.of (by decide +kernel) (fun vs I R K hT => ?_) (fun Γ K h vs I R hT => ?_)
  · obtain ⟨τ, x1, x2, rfl, hτ, rfl, hp, hK⟩ := hT
    exact Nat.le_of_ble_eq_true rfl
  · obtain ⟨τ, x1, x2, rfl, hτ, rfl, hp, hK⟩ := hT
    exact H Γ K τ x1 x2 I hτ h hp hK
theorem C_yX9_need : S_yX9_need := G_yX9_need (by
  intro Γ K τ x1 x2 I hτ h hp hK
  unfold q_yX9_need at hK
  have hpar : ∀ {J : cr_I}, cr_F cr_PRm I J → cr_mpar J = cr_mpar I := fun hf => cr_mpar_fr hf
  generalize cr_mpar I = pp at *
  refine bk_yX9_need_0 hτ h ⟨fun c => ?_, fun c => hK _ _ (Or.inl ⟨cr_mish.mp c, rfl, rfl⟩)⟩
  rw [cr_mish, Classical.not_not] at c
  refine cr_loop (fun k => ∀ J, cr_F cr_PRm I J → cr_ndS (cr_sfe pp x1.toNatClampNeg x2.toNatClampNeg) 1 60 = cr_ndS (cr_sfe pp x1.toNatClampNeg x2.toNatClampNeg) (k + 1) (60 - k) → cr_V Γ 13 [.ref 200, .int x1, .int x2, .int (nI (k + 1))] [] J (cr_rf τ) 247) 60 ?_ ?_ 0 (Nat.zero_le _) I cr_F.rf rfl
  · intro J hf he
    exact bk_yX9_need_13 hτ h ⟨fun _ => hK _ _ (Or.inr ⟨c, hf, he.symm⟩), fun z => absurd (by decide) z⟩
  · intro k hk ih J hf he
    refine bk_yX9_need_13 hτ h ⟨fun z => absurd ((cr_nlt (a := 60) (by omega) (by omega)).mp z) (by omega), fun _ => ⟨⟨cr_mok.fr hp hf, c.1, c.2⟩, fun r1 J1 hq => ?_⟩⟩
    obtain ⟨hf1, er⟩ := hq
    rw [hpar hf] at er
    have he := he.trans (show cr_ndS (cr_sfe pp x1.toNatClampNeg x2.toNatClampNeg) (k + 1) (60 - k) = (if cr_sfe pp x1.toNatClampNeg x2.toNatClampNeg (k + 1) = true then nI (k + 1) else cr_ndS (cr_sfe pp x1.toNatClampNeg x2.toNatClampNeg) (k + 1 + 1) (60 - (k + 1))) by rw [show 60 - k = (60 - (k + 1)) + 1 by omega, cr_ndS])
    refine ⟨fun d => ?_, fun d => ?_⟩
    · rintro v rfl
      rw [nI_1]
      refine ih J1 (hf.tr hf1) (he.trans (if_neg ?_))
      unfold cr_sfe
      rw [← er]
      intro z
      exact d (of_decide_eq_true z)
    · refine hK _ _ (Or.inr ⟨c, hf.tr hf1, ?_⟩)
      rw [he, if_pos]
      unfold cr_sfe
      rw [← er]
      exact decide_eq_true d)
theorem cr_bitw {x : Int32} {s : Nat} (hs : s < 32) : (cr_bit x (nI s) = 1) ↔ ¬ (x &&& cr_w1 s = 0) := by
  have e1 : ∀ s, s < 32 → (cr_w1 s).toBitVec = BitVec.twoPow 32 s := by decide +kernel
  have e2 : ∀ s, s < 32 → ((nI s &&& 31).toBitVec.smod 32).toNat = s := by decide +kernel
  have e3 : ∀ s, s < 32 → ¬ BitVec.twoPow 32 s = 0#32 := by decide +kernel
  have a1 : (x &&& cr_w1 s = 0) ↔ x.toBitVec.getLsbD s = false := by
    rw [← Int32.toBitVec_inj, Int32.toBitVec_and, e1 s hs, BitVec.and_twoPow]
    cases x.toBitVec.getLsbD s
    · exact ⟨fun _ => rfl, fun _ => rfl⟩
    · exact ⟨fun z => absurd z (e3 s hs), fun z => by cases z⟩
  have a2 : (x >>> (nI s &&& 31)).toBitVec.getLsbD 0 = x.toBitVec.getLsbD s := by
    rw [Int32.toBitVec_shiftRight, BitVec.sshiftRight_eq', e2 s hs, BitVec.getLsbD_sshiftRight]
    simp [hs]
  have a3 : (cr_bit x (nI s) = 1) ↔ x.toBitVec.getLsbD s = true := by
    unfold cr_bit
    rw [← Int32.toBitVec_inj, Int32.toBitVec_and, show (1 : Int32).toBitVec = BitVec.twoPow 32 0 by decide, BitVec.and_twoPow, a2]
    cases x.toBitVec.getLsbD s
    · exact ⟨fun z => absurd z (by decide), fun z => by cases z⟩
    · exact ⟨fun _ => rfl, fun _ => rfl⟩
  rw [a1, a3]
  cases x.toBitVec.getLsbD s <;> decide
def p_yX9_sparing (τ : Nat → Nat) (I : cr_I) : Prop := cr_mtld I
def q_yX9_sparing (τ : Nat → Nat) (I : cr_I) (r : Int32) (J : cr_I) : Prop := cr_F cr_PRm I J ∧ r = if cr_tch (cr_mpar I) (I 214 0) (cr_dl (I 214 2)) (I 200 19) = true then cr_spF (cr_tch (cr_mpar I) (I 214 0) (cr_dl (I 214 2))) (I 200 19) 32 else 0
theorem bk_yX9_sparing_0 {Γ : cr_G} {K : cr_K} {τ : Nat → Nat} {I : cr_I}  (hτ : cr_tau τ)  (h : cr_Ok yX9_sparing cX9_sparing 3 (some .int) (cr_rm0 5 122) K 247 247 Γ) (hyp : t_yX9_layTold τ I (fun (J1 : cr_I) => (¬ (J1 200 55) = (-1 : Int32) → cr_V Γ 18 [.ref 200, .int (0 : Int32), .int (0 : Int32)] [] J1 (cr_rf τ) 247) ∧ ((J1 200 55) = (-1 : Int32) → K (some (.int (0 : Int32))) J1 (cr_rf τ)))) : cr_V Γ 0 [.ref 200, .null, .null] [] I (cr_rf τ) 247 := by
  refine cr_aload_n h (j := 0) rfl rfl dX9_sparing_0 ?_
  refine cr_callV h (c0 := 9) (T0 := TX9) C_yX9_layTold cZ_yX9_layTold wm_X9_319 wv_yX9_layTold we_yX9_layTold (by decide) rfl rfl (cr_rmS (by decide) (by decide)) (As := []) rfl (Nat.le_of_ble_eq_true rfl) dX9_sparing_1 ⟨τ, _, rfl, hτ, rfl, hyp, fun J1 hyp => ?_⟩
  show cr_V Γ 4 [.ref 200, .null, .null] [] J1 (cr_rf τ) 247
  refine cr_aload_n h (j := 0) rfl rfl dX9_sparing_4 ?_
  refine cr_getI h (k := 55) cr_clsX9 (by decide) rfl rfl wf_X9_284 (by decide) rfl dX9_sparing_5 ?_
  refine cr_iconst h (v := (-1 : Int32)) (by decide) dX9_sparing_8 ?_
  refine cr_icmp_ne h (tgt := 14) (by decide) dX9_sparing_9 (fun c1 => ?_) (fun c1 => ?_)
  · have hyp := hyp.1 c1
    refine cr_iconst h (v := (0 : Int32)) (by decide) dX9_sparing_14 ?_
    refine cr_istore_n h (j := 1) rfl (by decide) rfl dX9_sparing_15 ?_
    show cr_V Γ 16 [.ref 200, .int (0 : Int32), .null] [] J1 (cr_rf τ) 247
    refine cr_iconst h (v := (0 : Int32)) (by decide) dX9_sparing_16 ?_
    refine cr_istore_n h (j := 2) rfl (by decide) rfl dX9_sparing_17 ?_
    show cr_V Γ 18 [.ref 200, .int (0 : Int32), .int (0 : Int32)] [] J1 (cr_rf τ) 247
    exact cr_weak [true, true, true] hyp
  · have hyp := hyp.2 c1
    refine cr_iconst h (v := (0 : Int32)) (by decide) dX9_sparing_12 ?_
    refine cr_iret h rfl rfl rfl dX9_sparing_13 ?_
    exact hyp
theorem bk_yX9_sparing_18 {Γ : cr_G} {K : cr_K} {τ : Nat → Nat} {I : cr_I} {x1 : Int32} {x2 : Int32} (hτ : cr_tau τ)  (h : cr_Ok yX9_sparing cX9_sparing 3 (some .int) (cr_rm0 5 122) K 247 247 Γ) (hyp : ((32 : Int32) ≤ x2 → K (some (.int x1)) I (cr_rf τ)) ∧ (¬ (32 : Int32) ≤ x2 → ((¬ (((I 200 19) >>> (x2 &&& 31)) &&& (1 : Int32)) = (1 : Int32) → (∀ v1 : Int32, v1 = x2 + (1 : Int32) → cr_V Γ 18 [.ref 200, .int x1, .int v1] [] I (cr_rf τ) 247)) ∧ ((((I 200 19) >>> (x2 &&& 31)) &&& (1 : Int32)) = (1 : Int32) → (p_yX9_layRun τ (I 214 0) (I 214 2) ((I 200 19) &&& (((1 : Int32) <<< (x2 &&& 31)) ^^^ (-1 : Int32))) I ∧ (∀ (J2 : cr_I), q_yX9_layRun τ (I 214 0) (I 214 2) ((I 200 19) &&& (((1 : Int32) <<< (x2 &&& 31)) ^^^ (-1 : Int32))) I J2 → (∀ v2 : Int32, v2 = (x1 ||| (if (J2 200 55) = (-1 : Int32) then ((1 : Int32) <<< (x2 &&& 31)) else (0 : Int32))) → (∀ v3 : Int32, v3 = x2 + (1 : Int32) → cr_V Γ 18 [.ref 200, .int v2, .int v3] [] J2 (cr_rf τ) 247)))))))) : cr_V Γ 18 [.ref 200, .int x1, .int x2] [] I (cr_rf τ) 247 := by
  refine cr_iload_n h (j := 2) rfl rfl dX9_sparing_18 ?_
  refine cr_bipush h (v := (32 : Int32)) (by decide) dX9_sparing_19 ?_
  refine cr_icmp_ge h (tgt := 86) (by decide) dX9_sparing_21 (fun c2 => ?_) (fun c2 => ?_)
  · have hyp := hyp.1 c2
    refine cr_iload_n h (j := 1) rfl rfl dX9_sparing_86 ?_
    refine cr_iret h rfl rfl rfl dX9_sparing_87 ?_
    exact hyp
  · have hyp := hyp.2 c2
    refine cr_aload_n h (j := 0) rfl rfl dX9_sparing_24 ?_
    refine cr_getI h (k := 19) cr_clsX9 (by decide) rfl rfl wf_X9_257 (by decide) rfl dX9_sparing_25 ?_
    refine cr_iload_n h (j := 2) rfl rfl dX9_sparing_28 ?_
    refine cr_ishr h dX9_sparing_29 ?_
    refine cr_iconst h (v := (1 : Int32)) (by decide) dX9_sparing_30 ?_
    refine cr_iand h dX9_sparing_31 ?_
    refine cr_iconst h (v := (1 : Int32)) (by decide) dX9_sparing_32 ?_
    refine cr_icmp_ne h (tgt := 80) (by decide) dX9_sparing_33 (fun c3 => ?_) (fun c3 => ?_)
    · have hyp := hyp.1 c3
      refine cs_inc h (v := (1 : Int32)) 2 rfl (by decide) (by decide) rfl dX9_sparing_80 (fun v1 ev1 => ?_)
      have hyp := hyp v1 ev1
      show cr_V Γ 83 [.ref 200, .int x1, .int v1] [] I (cr_rf τ) 247
      refine cr_goto h (tgt := 18) (by decide) dX9_sparing_83 ?_
      exact cr_weak [true, true, true] hyp
    · have hyp := hyp.2 c3
      refine cr_aload_n h (j := 0) rfl rfl dX9_sparing_36 ?_
      refine cr_aload_n h (j := 0) rfl rfl dX9_sparing_37 ?_
      refine cr_getR h (k := 15) cr_clsX9 (by decide) rfl rfl wf_X9_53 (by decide) rfl rfl dX9_sparing_38 ?_
      refine cr_iconst h (v := (0 : Int32)) (by decide) dX9_sparing_41 ?_
      refine cs_ild h (by decide) rfl (by decide) (q := 0) (by decide) dX9_sparing_42 ?_
      refine cr_aload_n h (j := 0) rfl rfl dX9_sparing_43 ?_
      refine cr_getR h (k := 15) cr_clsX9 (by decide) rfl rfl wf_X9_53 (by decide) rfl rfl dX9_sparing_44 ?_
      refine cr_iconst h (v := (2 : Int32)) (by decide) dX9_sparing_47 ?_
      refine cs_ild h (by decide) rfl (by decide) (q := 2) (by decide) dX9_sparing_48 ?_
      refine cr_aload_n h (j := 0) rfl rfl dX9_sparing_49 ?_
      refine cr_getI h (k := 19) cr_clsX9 (by decide) rfl rfl wf_X9_257 (by decide) rfl dX9_sparing_50 ?_
      refine cr_iconst h (v := (1 : Int32)) (by decide) dX9_sparing_53 ?_
      refine cr_iload_n h (j := 2) rfl rfl dX9_sparing_54 ?_
      refine cr_ishl h dX9_sparing_55 ?_
      refine cr_iconst h (v := (-1 : Int32)) (by decide) dX9_sparing_56 ?_
      refine cr_ixor h dX9_sparing_57 ?_
      refine cr_iand h dX9_sparing_58 ?_
      refine cr_callV h (c0 := 9) (T0 := TX9) C_yX9_layRun cZ_yX9_layRun wm_X9_315 wv_yX9_layRun we_yX9_layRun (by decide) rfl rfl (cr_rmS (by decide) (by decide)) (As := [.int (I 214 0), .int (I 214 2), .int ((I 200 19) &&& (((1 : Int32) <<< (x2 &&& 31)) ^^^ (-1 : Int32)))]) rfl (Nat.le_of_ble_eq_true rfl) dX9_sparing_59 ⟨τ, (I 214 0), (I 214 2), ((I 200 19) &&& (((1 : Int32) <<< (x2 &&& 31)) ^^^ (-1 : Int32))), rfl, hτ, rfl, hyp.1, fun J2 q1 => ?_⟩
      have hyp := hyp.2 J2 q1
      show cr_V Γ 62 [.ref 200, .int x1, .int x2] [] J2 (cr_rf τ) 247
      refine cr_iload_n h (j := 1) rfl rfl dX9_sparing_62 ?_
      refine cr_aload_n h (j := 0) rfl rfl dX9_sparing_63 ?_
      refine cr_getI h (k := 55) cr_clsX9 (by decide) rfl rfl wf_X9_284 (by decide) rfl dX9_sparing_64 ?_
      refine cr_iconst h (v := (-1 : Int32)) (by decide) dX9_sparing_67 ?_
      have J3 : cr_V Γ 78 [.ref 200, .int x1, .int x2] [.int (if (J2 200 55) = (-1 : Int32) then ((1 : Int32) <<< (x2 &&& 31)) else (0 : Int32)), .int x1] J2 (cr_rf τ) 247 := by
        refine cr_ior h dX9_sparing_78 ?_
        refine cs_i_n h 1 rfl (by decide) rfl dX9_sparing_79 (fun v2 ev2 => ?_)
        have hyp := hyp v2 ev2
        show cr_V Γ 80 [.ref 200, .int v2, .int x2] [] J2 (cr_rf τ) 247
        refine cs_inc h (v := (1 : Int32)) 2 rfl (by decide) (by decide) rfl dX9_sparing_80 (fun v3 ev3 => ?_)
        have hyp := hyp v3 ev3
        show cr_V Γ 83 [.ref 200, .int v2, .int v3] [] J2 (cr_rf τ) 247
        refine cr_goto h (tgt := 18) (by decide) dX9_sparing_83 ?_
        exact cr_weak [true, true, true] hyp
      refine cr_icmp_ne h (tgt := 77) (by decide) dX9_sparing_68 (fun c4 => ?_) (fun c4 => ?_)
      · refine cr_iconst h (v := (0 : Int32)) (by decide) dX9_sparing_77 ?_
        exact cr_ite (by rw [if_neg c4]) J3
      · refine cr_iconst h (v := (1 : Int32)) (by decide) dX9_sparing_71 ?_
        refine cr_iload_n h (j := 2) rfl rfl dX9_sparing_72 ?_
        refine cr_ishl h dX9_sparing_73 ?_
        refine cr_goto h (tgt := 78) (by decide) dX9_sparing_74 ?_
        exact cr_ite (by rw [if_pos c4]) J3
abbrev T_yX9_sparing : cr_T := fun vs I R K => ∃ (τ : Nat → Nat), R = cr_rf τ ∧ cr_tau τ ∧ vs = [.ref 200] ∧ p_yX9_sparing τ I ∧ ∀ (r : Int32) J, q_yX9_sparing τ I r J → K (some (.int r)) J (cr_rf τ)
abbrev S_yX9_sparing : Prop := cr_C yX9_sparing cX9_sparing 3 (some .int) (cr_rm0 5 122) 247 247 T_yX9_sparing
theorem G_yX9_sparing (H : ∀ (Γ : cr_G) (K : cr_K) (τ : Nat → Nat) (I : cr_I), cr_tau τ → cr_Ok yX9_sparing cX9_sparing 3 (some .int) (cr_rm0 5 122) K 247 247 Γ → p_yX9_sparing τ I → (∀ (r : Int32) J, q_yX9_sparing τ I r J → K (some (.int r)) J (cr_rf τ)) → cr_V Γ 0 [.ref 200, .null, .null] [] I (cr_rf τ) 247) : cr_C yX9_sparing cX9_sparing 3 (some .int) (cr_rm0 5 122) 247 247 T_yX9_sparing := by
  refine cr_C.of (by decide +kernel) (fun vs I R K hT => ?_) (fun Γ K h vs I R hT => ?_)
  · obtain ⟨τ, rfl, hτ, rfl, hp, hK⟩ := hT
    exact Nat.le_of_ble_eq_true rfl
  · obtain ⟨τ, rfl, hτ, rfl, hp, hK⟩ := hT
    exact H Γ K τ I hτ h hp hK
theorem cr_tch_1 {p : cr_par} {g : Int32} {dl : Nat} {lost : Int32} : (cr_tch p g dl lost = true) ↔ ¬ (cr_tc p g dl lost 32).1 = -1 := by
  unfold cr_tch
  by_cases q : (cr_tc p g dl lost 32).1 = -1
  · rw [decide_eq_true q]; exact ⟨fun z => absurd z (by decide), fun z => absurd q z⟩
  · rw [decide_eq_false q]; exact ⟨fun _ => q, fun _ => rfl⟩
theorem C_yX9_sparing : S_yX9_sparing := G_yX9_sparing (by
  intro Γ K τ I hτ h hp hK
  unfold q_yX9_sparing at hK
  have hpar : ∀ {J : cr_I}, cr_F cr_PRm I J → cr_mpar J = cr_mpar I := fun hf => cr_mpar_fr hf
  refine bk_yX9_sparing_0 hτ h (cw_mtold hp fun J1 hf1 hv1 => ?_)
  generalize cr_mpar I = pp at *
  have e55 : J1 200 55 = (cr_tc pp (I 214 0) (cr_dl (I 214 2)) (I 200 19) 32).1 := congrArg Prod.fst hv1.2.2.2.1
  rw [e55]
  refine ⟨fun c => ?_, fun c => hK _ _ ⟨hf1, by rw [if_neg (fun z => cr_tch_1.mp z c)]⟩⟩
  rw [if_pos (cr_tch_1.mpr c)] at hK
  refine cr_loop (fun s => ∀ J, cr_F cr_PRm I J → cr_V Γ 18 [.ref 200, .int (cr_spF (cr_tch pp (I 214 0) (cr_dl (I 214 2))) (I 200 19) s), .int (nI s)] [] J (cr_rf τ) 247) 32 ?_ ?_ 0 (Nat.zero_le _) J1 hf1
  · intro J hf
    exact bk_yX9_sparing_18 hτ h ⟨fun _ => hK _ _ ⟨hf, rfl⟩, fun z => absurd (by decide) z⟩
  · intro s hs ih J hf
    refine bk_yX9_sparing_18 hτ h ⟨fun z => absurd z (nI_ge (a := s) (b := 32) hs (by omega)), fun _ => ?_⟩
    rw [cr_PRm_f hf (k := 19) (by decide), hf 214 0 (by unfold cr_PRm; omega), hf 214 2 (by unfold cr_PRm; omega)]
    have hbw := cr_bitw (x := I 200 19) hs
    refine ⟨fun c1 => ?_, fun c1 => ⟨⟨cr_mok.fr hp.1 hf, hp.2⟩, fun J2 hq2 => ?_⟩⟩
    · have c1' : I 200 19 &&& cr_w1 s = 0 := Classical.byContradiction fun z => c1 (hbw.mpr z)
      rintro v rfl
      rw [nI_1]
      have ih := ih J hf
      rw [cr_spF, if_pos c1'] at ih
      exact ih
    · have c1' := hbw.mp c1
      obtain ⟨hf2, hv2⟩ := hq2
      rw [hpar hf] at hv2
      have hf2' := hf.tr hf2
      have e2 : J2 200 55 = (cr_tc pp (I 214 0) (cr_dl (I 214 2)) (I 200 19 &&& (cr_w1 s ^^^ (-1 : Int32))) 32).1 := congrArg Prod.fst hv2.2.2.2.1
      have ih := ih J2 hf2'
      rw [cr_spF, if_neg c1'] at ih
      rw [e2]
      rintro v rfl w rfl
      rw [nI_1]
      by_cases q : (cr_tc pp (I 214 0) (cr_dl (I 214 2)) (I 200 19 &&& (cr_w1 s ^^^ (-1 : Int32))) 32).1 = -1
      · rw [if_neg (fun z => cr_tch_1.mp z q)] at ih
        rw [if_pos q]
        exact ih
      · rw [if_pos (cr_tch_1.mpr q)] at ih
        rw [if_neg q, Int32.or_zero]
        exact ih)
def p_yX9_bears (τ : Nat → Nat) (x1 x2 : Int32) (I : cr_I) : Prop := cr_mtld I
def q_yX9_bears (τ : Nat → Nat) (x1 x2 : Int32) (I : cr_I) (r : Int32) (J : cr_I) : Prop := (¬ ((0 ≤ x1.toInt ∧ x1.toInt ≤ 2000) ∧ (x1.toInt ≤ x2.toInt ∧ x2.toInt ≤ 2000)) ∧ r = -3 ∧ J = I) ∨ (((0 ≤ x1.toInt ∧ x1.toInt ≤ 2000) ∧ (x1.toInt ≤ x2.toInt ∧ x2.toInt ≤ 2000)) ∧ cr_F cr_PRm I J ∧ r = cr_brS (cr_wgR (cr_mpar I) (I 214 0) (cr_dl (I 214 2)) (I 200 19) (fun i => I 201 (cr_mmk I i)) x1 x2) 32)
theorem bk_yX9_bears_0 {Γ : cr_G} {K : cr_K} {τ : Nat → Nat} {I : cr_I} {x1 : Int32} {x2 : Int32} (hτ : cr_tau τ)  (h : cr_Ok yX9_bears cX9_bears 7 (some .int) (cr_rm0 5 122) K 247 247 Γ) (hyp : ((f_yX9_in τ x1.toInt64 (0 : Int64) (2000 : Int64) I) = 0 → K (some (.int (-3 : Int32))) I (cr_rf τ)) ∧ (¬ (f_yX9_in τ x1.toInt64 (0 : Int64) (2000 : Int64) I) = 0 → ((¬ (f_yX9_in τ x2.toInt64 x1.toInt64 (2000 : Int64) I) = 0 → (t_yX9_layTold τ I (fun (J1 : cr_I) => cr_V Γ 37 [.ref 200, .int x1, .int x2, .int (0 : Int32), .int (0 : Int32), .null, .null] [] J1 (cr_rf τ) 247))) ∧ ((f_yX9_in τ x2.toInt64 x1.toInt64 (2000 : Int64) I) = 0 → K (some (.int (-3 : Int32))) I (cr_rf τ))))) : cr_V Γ 0 [.ref 200, .int x1, .int x2, .null, .null, .null, .null] [] I (cr_rf τ) 247 := by
  refine cr_iload_n h (j := 1) rfl rfl dX9_bears_0 ?_
  refine cr_i2l h dX9_bears_1 ?_
  refine cr_lconst h (v := (0 : Int64)) (by decide) dX9_bears_2 ?_
  refine cr_ldc2 h wc_X9_260 dX9_bears_3 ?_
  refine cr_callS h C_yX9_in cZ_yX9_in wm_X9_154 ws_yX9_in (cr_rmS (by decide) (by decide)) (As := [.long x1.toInt64, .long (0 : Int64), .long (2000 : Int64)]) rfl (Nat.le_of_ble_eq_true rfl) dX9_bears_6 ⟨τ, x1.toInt64, (0 : Int64), (2000 : Int64), rfl, hτ, rfl, ?_⟩
  show cr_V Γ 9 [.ref 200, .int x1, .int x2, .null, .null, .null, .null] [.int (f_yX9_in τ x1.toInt64 (0 : Int64) (2000 : Int64) I)] I (cr_rf τ) 247
  refine cr_if_eq h (tgt := 25) (by decide) dX9_bears_9 (fun c1 => ?_) (fun c1 => ?_)
  · have hyp := hyp.1 c1
    refine cr_bipush h (v := (-3 : Int32)) (by decide) dX9_bears_25 ?_
    refine cr_iret h rfl rfl rfl dX9_bears_27 ?_
    exact hyp
  · have hyp := hyp.2 c1
    refine cr_iload_n h (j := 2) rfl rfl dX9_bears_12 ?_
    refine cr_i2l h dX9_bears_13 ?_
    refine cr_iload_n h (j := 1) rfl rfl dX9_bears_14 ?_
    refine cr_i2l h dX9_bears_15 ?_
    refine cr_ldc2 h wc_X9_260 dX9_bears_16 ?_
    refine cr_callS h C_yX9_in cZ_yX9_in wm_X9_154 ws_yX9_in (cr_rmS (by decide) (by decide)) (As := [.long x2.toInt64, .long x1.toInt64, .long (2000 : Int64)]) rfl (Nat.le_of_ble_eq_true rfl) dX9_bears_19 ⟨τ, x2.toInt64, x1.toInt64, (2000 : Int64), rfl, hτ, rfl, ?_⟩
    show cr_V Γ 22 [.ref 200, .int x1, .int x2, .null, .null, .null, .null] [.int (f_yX9_in τ x2.toInt64 x1.toInt64 (2000 : Int64) I)] I (cr_rf τ) 247
    refine cr_if_ne h (tgt := 28) (by decide) dX9_bears_22 (fun c2 => ?_) (fun c2 => ?_)
    · have hyp := hyp.1 c2
      refine cr_aload_n h (j := 0) rfl rfl dX9_bears_28 ?_
      refine cr_callV h (c0 := 9) (T0 := TX9) C_yX9_layTold cZ_yX9_layTold wm_X9_319 wv_yX9_layTold we_yX9_layTold (by decide) rfl rfl (cr_rmS (by decide) (by decide)) (As := []) rfl (Nat.le_of_ble_eq_true rfl) dX9_bears_29 ⟨τ, _, rfl, hτ, rfl, hyp, fun J1 hyp => ?_⟩
      show cr_V Γ 32 [.ref 200, .int x1, .int x2, .null, .null, .null, .null] [] J1 (cr_rf τ) 247
      refine cr_iconst h (v := (0 : Int32)) (by decide) dX9_bears_32 ?_
      refine cr_istore_n h (j := 3) rfl (by decide) rfl dX9_bears_33 ?_
      show cr_V Γ 34 [.ref 200, .int x1, .int x2, .int (0 : Int32), .null, .null, .null] [] J1 (cr_rf τ) 247
      refine cr_iconst h (v := (0 : Int32)) (by decide) dX9_bears_34 ?_
      refine cr_istore h (by decide) rfl dX9_bears_35 ?_
      show cr_V Γ 37 [.ref 200, .int x1, .int x2, .int (0 : Int32), .int (0 : Int32), .null, .null] [] J1 (cr_rf τ) 247
      exact cr_weak [true, true, true, true, true, false, false] hyp
    · have hyp := hyp.2 c2
      refine cr_bipush h (v := (-3 : Int32)) (by decide) dX9_bears_25 ?_
      refine cr_iret h rfl rfl rfl dX9_bears_27 ?_
      exact hyp
theorem bk_yX9_bears_37 {Γ : cr_G} {K : cr_K} {τ : Nat → Nat} {I : cr_I} {x1 : Int32} {x2 : Int32} {x3 : Int32} {x4 : Int32} (hτ : cr_tau τ)  (h : cr_Ok yX9_bears cX9_bears 7 (some .int) (cr_rm0 5 122) K 247 247 Γ) (hyp : ((32 : Int32) ≤ x4 → K (some (.int x3)) I (cr_rf τ)) ∧ (¬ (32 : Int32) ≤ x4 → cr_V Γ 50 [.ref 200, .int x1, .int x2, .int x3, .int x4, .int (0 : Int32), .int (0 : Int32)] [] I (cr_rf τ) 247)) : cr_V Γ 37 [.ref 200, .int x1, .int x2, .int x3, .int x4, .null, .null] [] I (cr_rf τ) 247 := by
  refine cr_iload h rfl dX9_bears_37 ?_
  refine cr_bipush h (v := (32 : Int32)) (by decide) dX9_bears_39 ?_
  refine cr_icmp_ge h (tgt := 129) (by decide) dX9_bears_41 (fun c3 => ?_) (fun c3 => ?_)
  · have hyp := hyp.1 c3
    refine cr_iload_n h (j := 3) rfl rfl dX9_bears_129 ?_
    refine cr_iret h rfl rfl rfl dX9_bears_130 ?_
    exact hyp
  · have hyp := hyp.2 c3
    refine cr_iconst h (v := (0 : Int32)) (by decide) dX9_bears_44 ?_
    refine cr_istore h (by decide) rfl dX9_bears_45 ?_
    show cr_V Γ 47 [.ref 200, .int x1, .int x2, .int x3, .int x4, .int (0 : Int32), .null] [] I (cr_rf τ) 247
    refine cr_iconst h (v := (0 : Int32)) (by decide) dX9_bears_47 ?_
    refine cr_istore h (by decide) rfl dX9_bears_48 ?_
    show cr_V Γ 50 [.ref 200, .int x1, .int x2, .int x3, .int x4, .int (0 : Int32), .int (0 : Int32)] [] I (cr_rf τ) 247
    exact cr_weak [true, true, true, true, true, true, true] hyp
theorem bk_yX9_bears_50 {Γ : cr_G} {K : cr_K} {τ : Nat → Nat} {I : cr_I} {x1 : Int32} {x2 : Int32} {x3 : Int32} {x4 : Int32} {x5 : Int32} {x6 : Int32} (hτ : cr_tau τ)  (h : cr_Ok yX9_bears cX9_bears 7 (some .int) (cr_rm0 5 122) K 247 247 Γ) (hyp : ((I 200 13) ≤ x6 → (∀ v1 : Int32, v1 = (if x5 ≤ x3 then x3 else x5) → (∀ v2 : Int32, v2 = x4 + (1 : Int32) → cr_V Γ 37 [.ref 200, .int x1, .int x2, .int v1, .int v2, .null, .null] [] I (cr_rf τ) 247))) ∧ (¬ (I 200 13) ≤ x6 → ((0 ≤ (((6 : Int32) * x4) + x6).toInt ∧ (((6 : Int32) * x4) + x6).toInt < 192) ∧ ((f_yX9_in τ ((I 235 (((6 : Int32) * x4) + x6).toNatClampNeg).toInt64) x1.toInt64 x2.toInt64 I) = 0 → True) ∧ (¬ (f_yX9_in τ ((I 235 (((6 : Int32) * x4) + x6).toNatClampNeg).toInt64) x1.toInt64 x2.toInt64 I) = 0 → ((0 ≤ x6.toInt ∧ x6.toInt < 6) ∧ ((0 ≤ (I 213 x6.toNatClampNeg).toInt ∧ (I 213 x6.toNatClampNeg).toInt < 4) ∧ True))) ∧ (∀ v3 : Int32, v3 = (x5 + (if (f_yX9_in τ ((I 235 (((6 : Int32) * x4) + x6).toNatClampNeg).toInt64) x1.toInt64 x2.toInt64 I) = 0 then (0 : Int32) else (I 201 (I 213 x6.toNatClampNeg).toNatClampNeg))) → (∀ v4 : Int32, v4 = x6 + (1 : Int32) → cr_V Γ 50 [.ref 200, .int x1, .int x2, .int x3, .int x4, .int v3, .int v4] [] I (cr_rf τ) 247))))) : cr_V Γ 50 [.ref 200, .int x1, .int x2, .int x3, .int x4, .int x5, .int x6] [] I (cr_rf τ) 247 := by
  refine cr_iload h rfl dX9_bears_50 ?_
  refine cr_aload_n h (j := 0) rfl rfl dX9_bears_52 ?_
  refine cr_getI h (k := 13) cr_clsX9 (by decide) rfl rfl wf_X9_46 (by decide) rfl dX9_bears_53 ?_
  refine cr_icmp_ge h (tgt := 110) (by decide) dX9_bears_56 (fun c4 => ?_) (fun c4 => ?_)
  · have hyp := hyp.1 c4
    refine cr_iload h rfl dX9_bears_110 ?_
    refine cr_iload_n h (j := 3) rfl rfl dX9_bears_112 ?_
    have J2 : cr_V Γ 122 [.ref 200, .int x1, .int x2, .int x3, .int x4, .int x5, .int x6] [.int (if x5 ≤ x3 then x3 else x5)] I (cr_rf τ) 247 := by
      refine cs_i_n h 3 rfl (by decide) rfl dX9_bears_122 (fun v1 ev1 => ?_)
      have hyp := hyp v1 ev1
      show cr_V Γ 123 [.ref 200, .int x1, .int x2, .int v1, .int x4, .int x5, .int x6] [] I (cr_rf τ) 247
      refine cs_inc h (v := (1 : Int32)) 4 rfl (by decide) (by decide) rfl dX9_bears_123 (fun v2 ev2 => ?_)
      have hyp := hyp v2 ev2
      show cr_V Γ 126 [.ref 200, .int x1, .int x2, .int v1, .int v2, .int x5, .int x6] [] I (cr_rf τ) 247
      refine cr_goto h (tgt := 37) (by decide) dX9_bears_126 ?_
      exact cr_weak [true, true, true, true, true, false, false] hyp
    refine cr_icmp_le h (tgt := 121) (by decide) dX9_bears_113 (fun c5 => ?_) (fun c5 => ?_)
    · refine cr_iload_n h (j := 3) rfl rfl dX9_bears_121 ?_
      exact cr_ite (by rw [if_pos c5]) J2
    · refine cr_iload h rfl dX9_bears_116 ?_
      refine cr_goto h (tgt := 122) (by decide) dX9_bears_118 ?_
      exact cr_ite (by rw [if_neg c5]) J2
  · have hyp := hyp.2 c4
    refine cr_iload h rfl dX9_bears_59 ?_
    refine cr_aload_n h (j := 0) rfl rfl dX9_bears_61 ?_
    refine cr_getR h (k := 50) cr_clsX9 (by decide) rfl rfl wf_X9_116 (by decide) rfl rfl dX9_bears_62 ?_
    refine cr_bipush h (v := (6 : Int32)) (by decide) dX9_bears_65 ?_
    refine cr_iload h rfl dX9_bears_67 ?_
    refine cr_imul h dX9_bears_69 ?_
    refine cr_iload h rfl dX9_bears_70 ?_
    refine cr_iadd h dX9_bears_72 ?_
    refine cs_ild h (by decide) rfl hyp.1 (q := (((6 : Int32) * x4) + x6).toNatClampNeg) rfl dX9_bears_73 ?_
    have hyp := hyp.2
    refine cr_i2l h dX9_bears_74 ?_
    refine cr_iload_n h (j := 1) rfl rfl dX9_bears_75 ?_
    refine cr_i2l h dX9_bears_76 ?_
    refine cr_iload_n h (j := 2) rfl rfl dX9_bears_77 ?_
    refine cr_i2l h dX9_bears_78 ?_
    refine cr_callS h C_yX9_in cZ_yX9_in wm_X9_154 ws_yX9_in (cr_rmS (by decide) (by decide)) (As := [.long (I 235 (((6 : Int32) * x4) + x6).toNatClampNeg).toInt64, .long x1.toInt64, .long x2.toInt64]) rfl (Nat.le_of_ble_eq_true rfl) dX9_bears_79 ⟨τ, (I 235 (((6 : Int32) * x4) + x6).toNatClampNeg).toInt64, x1.toInt64, x2.toInt64, rfl, hτ, rfl, ?_⟩
    show cr_V Γ 82 [.ref 200, .int x1, .int x2, .int x3, .int x4, .int x5, .int x6] [.int (f_yX9_in τ ((I 235 (((6 : Int32) * x4) + x6).toNatClampNeg).toInt64) x1.toInt64 x2.toInt64 I), .int x5] I (cr_rf τ) 247
    have hsJ3 := hyp.1
    have htJ3 := hyp.2.1
    have hyp := hyp.2.2
    have J3 : cr_V Γ 101 [.ref 200, .int x1, .int x2, .int x3, .int x4, .int x5, .int x6] [.int (if (f_yX9_in τ ((I 235 (((6 : Int32) * x4) + x6).toNatClampNeg).toInt64) x1.toInt64 x2.toInt64 I) = 0 then (0 : Int32) else (I 201 (I 213 x6.toNatClampNeg).toNatClampNeg)), .int x5] I (cr_rf τ) 247 := by
      refine cr_iadd h dX9_bears_101 ?_
      refine cs_i h 5 (by decide) rfl dX9_bears_102 (fun v3 ev3 => ?_)
      have hyp := hyp v3 ev3
      show cr_V Γ 104 [.ref 200, .int x1, .int x2, .int x3, .int x4, .int v3, .int x6] [] I (cr_rf τ) 247
      refine cs_inc h (v := (1 : Int32)) 6 rfl (by decide) (by decide) rfl dX9_bears_104 (fun v4 ev4 => ?_)
      have hyp := hyp v4 ev4
      show cr_V Γ 107 [.ref 200, .int x1, .int x2, .int x3, .int x4, .int v3, .int v4] [] I (cr_rf τ) 247
      refine cr_goto h (tgt := 50) (by decide) dX9_bears_107 ?_
      exact cr_weak [true, true, true, true, true, true, true] hyp
    refine cr_if_eq h (tgt := 100) (by decide) dX9_bears_82 (fun c6 => ?_) (fun c6 => ?_)
    · refine cr_iconst h (v := (0 : Int32)) (by decide) dX9_bears_100 ?_
      exact cr_ite (by rw [if_pos c6]) J3
    · have hyp := htJ3 c6
      refine cr_aload_n h (j := 0) rfl rfl dX9_bears_85 ?_
      refine cr_getR h (k := 0) cr_clsX9 (by decide) rfl rfl wf_X9_7 (by decide) rfl rfl dX9_bears_86 ?_
      refine cr_aload_n h (j := 0) rfl rfl dX9_bears_89 ?_
      refine cr_getR h (k := 14) cr_clsX9 (by decide) rfl rfl wf_X9_50 (by decide) rfl rfl dX9_bears_90 ?_
      refine cr_iload h rfl dX9_bears_93 ?_
      refine cs_ild h (by decide) rfl hyp.1 (q := x6.toNatClampNeg) rfl dX9_bears_95 ?_
      have hyp := hyp.2
      refine cs_ild h (by decide) rfl hyp.1 (q := (I 213 x6.toNatClampNeg).toNatClampNeg) rfl dX9_bears_96 ?_
      have hyp := hyp.2
      refine cr_goto h (tgt := 101) (by decide) dX9_bears_97 ?_
      exact cr_ite (by rw [if_neg c6]) J3
abbrev T_yX9_bears : cr_T := fun vs I R K => ∃ (τ : Nat → Nat) (x1 : Int32) (x2 : Int32), R = cr_rf τ ∧ cr_tau τ ∧ vs = [.ref 200, .int x1, .int x2] ∧ p_yX9_bears τ x1 x2 I ∧ ∀ (r : Int32) J, q_yX9_bears τ x1 x2 I r J → K (some (.int r)) J (cr_rf τ)
abbrev S_yX9_bears : Prop := cr_C yX9_bears cX9_bears 7 (some .int) (cr_rm0 5 122) 247 247 T_yX9_bears
theorem G_yX9_bears (H : ∀ (Γ : cr_G) (K : cr_K) (τ : Nat → Nat) (x1 : Int32) (x2 : Int32) (I : cr_I), cr_tau τ → cr_Ok yX9_bears cX9_bears 7 (some .int) (cr_rm0 5 122) K 247 247 Γ → p_yX9_bears τ x1 x2 I → (∀ (r : Int32) J, q_yX9_bears τ x1 x2 I r J → K (some (.int r)) J (cr_rf τ)) → cr_V Γ 0 [.ref 200, .int x1, .int x2, .null, .null, .null, .null] [] I (cr_rf τ) 247) : cr_C yX9_bears cX9_bears 7 (some .int) (cr_rm0 5 122) 247 247 T_yX9_bears := by
  refine cr_C.of (by decide +kernel) (fun vs I R K hT => ?_) (fun Γ K h vs I R hT => ?_)
  · obtain ⟨τ, x1, x2, rfl, hτ, rfl, hp, hK⟩ := hT
    exact Nat.le_of_ble_eq_true rfl
  · obtain ⟨τ, x1, x2, rfl, hτ, rfl, hp, hK⟩ := hT
    exact H Γ K τ x1 x2 I hτ h hp hK
theorem C_yX9_bears : S_yX9_bears := G_yX9_bears (by
  intro Γ K τ x1 x2 I hτ h hp hK
  obtain ⟨eN, h1, h6⟩ := hp.1.1.un
  unfold q_yX9_bears at hK
  have z0 : (0 : Int64).toInt = 0 := rfl
  have z2 : (2000 : Int64).toInt = 2000 := rfl
  refine bk_yX9_bears_0 hτ h ?_
  rw [cr_in0, cr_in0, Int32.toInt_toInt64, Int32.toInt_toInt64, z0, z2]
  refine ⟨fun c => hK _ _ (Or.inl ⟨fun z => c z.1, rfl, rfl⟩), fun c => ⟨fun d => ?_, fun d => hK _ _ (Or.inl ⟨fun z => d z.2, rfl, rfl⟩)⟩⟩
  rw [Classical.not_not] at c d
  refine cw_mtold hp fun J hf hv => ?_
  have hK' := fun r hr => hK r J (Or.inr ⟨⟨c, d⟩, hf, hr⟩)
  clear hK
  have hpn : pn (cr_mpar I) = cr_mn0 I := rfl
  have eJ : J 200 13 = nI (cr_mn0 I) := by rw [cr_PRm_f hf (k := 13) (by decide)]; exact eN
  have e13 : ∀ i, J 213 i = I 213 i := fun i => hf 213 i (by unfold cr_PRm; omega)
  have e01 : ∀ i, J 201 i = I 201 i := fun i => hf 201 i (by unfold cr_PRm; omega)
  generalize cr_mpar I = pp at *
  generalize cr_mn0 I = n at *
  refine cr_loop (fun t => cr_V Γ 37 [.ref 200, .int x1, .int x2, .int (cr_brS (cr_wgR pp (I 214 0) (cr_dl (I 214 2)) (I 200 19) (fun i => I 201 (cr_mmk I i)) x1 x2) t), .int (nI t), .null, .null] [] J (cr_rf τ) 247) 32 ?_ ?_ 0 (Nat.zero_le _)
  · exact bk_yX9_bears_37 hτ h ⟨fun _ => hK' _ rfl, fun z => absurd (by decide) z⟩
  · intro t ht ih
    refine bk_yX9_bears_37 hτ h ⟨fun z => absurd z (nI_ge (a := t) (b := 32) ht (by omega)), fun _ => ?_⟩
    refine cr_loop (fun i => cr_V Γ 50 [.ref 200, .int x1, .int x2, .int (cr_brS (cr_wgR pp (I 214 0) (cr_dl (I 214 2)) (I 200 19) (fun i => I 201 (cr_mmk I i)) x1 x2) t), .int (nI t), .int (cr_wgS (fun i => rP (cr_rs pp (I 214 0) (cr_dl (I 214 2)) (I 200 19) (t + 1)) i) (fun i => I 201 (cr_mmk I i)) x1 x2 i), .int (nI i)] [] J (cr_rf τ) 247) n ?_ ?_ 0 (Nat.zero_le _)
    · refine bk_yX9_bears_50 hτ h ⟨fun _ => ?_, fun z => absurd ?_ z⟩
      · rw [cr_iten]
        rintro v rfl w rfl
        rw [nI_1]
        rw [cr_brS] at ih
        unfold cr_wgR at ih ⊢
        rw [hpn] at ih ⊢
        exact ih
      · rw [eJ]; exact Int32.le_refl _
    · intro i hi ih2
      refine bk_yX9_bears_50 hτ h ⟨fun z => absurd z ?_, fun _ => ?_⟩
      · rw [eJ]; exact cr_nle hi (by omega)
      · rw [cr_6k (by omega) (by omega), cr_nc (show 6 * t + i < 100000 by omega), cr_nc (show i < 100000 by omega), (hv.2.1 i t (by omega) ht).2.2.2.1, e13, e01]
        have hin : f_yX9_in τ (rP (cr_rs pp (I 214 0) (cr_dl (I 214 2)) (I 200 19) (t + 1)) i).toInt64 x1.toInt64 x2.toInt64 J = 0 ↔ ¬ (x1.toInt ≤ (rP (cr_rs pp (I 214 0) (cr_dl (I 214 2)) (I 200 19) (t + 1)) i).toInt ∧ (rP (cr_rs pp (I 214 0) (cr_dl (I 214 2)) (I 200 19) (t + 1)) i).toInt ≤ x2.toInt) := by
          rw [cr_in0, Int32.toInt_toInt64, Int32.toInt_toInt64, Int32.toInt_toInt64]
        refine ⟨cr_ix (by omega) (by omega), fun _ => trivial, fun _ => ⟨cr_ix (by omega) (by omega), hp.1.2.2.2.1 i (by omega), trivial⟩, ?_⟩
        rintro v rfl w rfl
        rw [nI_1]
        rw [cr_wgS] at ih2
        by_cases q : x1.toInt ≤ (rP (cr_rs pp (I 214 0) (cr_dl (I 214 2)) (I 200 19) (t + 1)) i).toInt ∧ (rP (cr_rs pp (I 214 0) (cr_dl (I 214 2)) (I 200 19) (t + 1)) i).toInt ≤ x2.toInt
        · rw [if_neg (fun z => hin.mp z q)]
          rw [if_pos q] at ih2
          exact ih2
        · rw [if_pos (hin.mpr q), Int32.add_zero]
          rw [if_neg q] at ih2
          exact ih2)
