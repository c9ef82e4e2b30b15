/-! lines: the reference -/
def cr_wk (k n : Int32) : Int32 := if k = 0 then -n else if k = 1 then n else 0
def cr_Pq (l b i : Nat) : Prop := (b = 200 ∧ 44 ≤ i ∧ i ≤ 47) ∨ (b = 206 ∧ i = 4) ∨ ((b = 207 ∨ b = 208 ∨ b = 209) ∧ i = l) ∨ ((b = 210 ∨ b = 211 ∨ b = 212) ∧ 4 * l ≤ i ∧ i < 4 * l + 4)
def cr_lnM (l : Nat) (J : cr_I) (B : Nat → Int32) (L : Nat) (u : cr_tk) : Prop := (cr_wk (J 207 l) (J 208 l) = (cr_lnS B L u).2.2.1 ∧ (J 207 l = 0 ∨ J 207 l = 1 ∨ J 207 l = 2) ∧ 0 ≤ (J 208 l).toInt ∧ (J 208 l).toInt ≤ 99) ∧ J 209 l = nI (cr_lnS B L u).2.2.2 ∧ ∀ k, k < (cr_lnS B L u).2.2.2 → J 210 (4 * l + k) = (cr_tsS B L (cr_tst B L (cr_wsS B L u).2.1 k)).2.2.1 ∧ J 211 (4 * l + k) = (cr_tsS B L (cr_tst B L (cr_wsS B L u).2.1 k)).2.2.2.1 ∧ J 212 (4 * l + k) = (cr_tsS B L (cr_tst B L (cr_wsS B L u).2.1 k)).2.2.2.2
theorem cr_isW_ne {B : Nat → Int32} {t : cr_tk} {w w' : Nat} (hw : w < 13) (hw' : w' < 13) (h : cr_isW B t w = true) (hc : ¬ cr_txc w 0 = cr_txc w' 0) : ¬ cr_isW B t w' = true := by
  intro h'
  have a := (cr_isW_c h).2 0 (by have := cr_txL_le hw; omega)
  have b := (cr_isW_c h').2 0 (by have := cr_txL_le hw'; omega)
  exact hc (a.symm.trans b)
def p_yX9_readsLine (τ : Nat → Nat) (I : cr_I) : Prop := cr_mt I (cr_mtk I) ∧ 0 ≤ (I 206 4).toInt ∧ (I 206 4).toInt ≤ 5
def q_yX9_readsLine (τ : Nat → Nat) (I : cr_I) (r : Int32) (J : cr_I) : Prop := cr_F (cr_Pq (24 + (I 206 4).toNatClampNeg)) I J ∧ cr_mt J (cr_lnS (I 205) (cr_mL I) (cr_mtk I)).2.1 ∧ ((cr_lnS (I 205) (cr_mL I) (cr_mtk I)).1 = true → r = 1 ∧ J 206 4 = nI ((I 206 4).toNatClampNeg + 1) ∧ cr_lnM (24 + (I 206 4).toNatClampNeg) J (I 205) (cr_mL I) (cr_mtk I)) ∧ (¬ (cr_lnS (I 205) (cr_mL I) (cr_mtk I)).1 = true → r = 0)
theorem bk_yX9_readsLine_0 {Γ : cr_G} {K : cr_K} {τ : Nat → Nat} {I : cr_I}  (hτ : cr_tau τ)  (h : cr_Ok yX9_readsLine cX9_readsLine 4 (some .boolean) (cr_rm0 4 85) K 247 247 Γ) (hyp : ∀ v1 : Int32, v1 = ((24 : Int32) + (I 206 4)) → ((0 ≤ v1.toInt ∧ v1.toInt < 30) ∧ (∀ J1 : cr_I, J1 = cr_up I 209 v1.toNatClampNeg (0 : Int32) → (p_yX9_isWord τ (769427 : Int64) (4 : Int32) J1 ∧ ((f_yX9_isWord τ (769427 : Int64) (4 : Int32) J1) = 0 → (p_yX9_isWord τ (674854 : Int64) (4 : Int32) J1 ∧ (((f_yX9_isWord τ (674854 : Int64) (4 : Int32) J1) = 0 → (p_yX9_isWord τ (529579 : Int64) (4 : Int32) J1 ∧ True)) ∧ (¬ (f_yX9_isWord τ (674854 : Int64) (4 : Int32) J1) = 0 → True)))) ∧ (¬ (f_yX9_isWord τ (769427 : Int64) (4 : Int32) J1) = 0 → True) ∧ (∀ v2 : Int32, v2 = (if (f_yX9_isWord τ (769427 : Int64) (4 : Int32) J1) = 0 then (if (f_yX9_isWord τ (674854 : Int64) (4 : Int32) J1) = 0 then (if (f_yX9_isWord τ (529579 : Int64) (4 : Int32) J1) = 0 then (-1 : Int32) else (2 : Int32)) else (1 : Int32)) else (0 : Int32)) → ((¬ v2 = (-1 : Int32) → (p_yX9_token τ J1 ∧ (∀ (J2 : cr_I), q_yX9_token τ J1 J2 → (∀ J3 : cr_I, J3 = cr_up J2 200 47 (0 : Int32) → ((v2 = (2 : Int32) → ((0 ≤ v1.toInt ∧ v1.toInt < 30) ∧ (∀ J4 : cr_I, J4 = cr_up J3 207 v1.toNatClampNeg v2 → ((0 ≤ v1.toInt ∧ v1.toInt < 30) ∧ (∀ J5 : cr_I, J5 = cr_up J4 208 v1.toNatClampNeg (J4 200 47) → (t_yX9_skips τ (464151 : Int64) (4 : Int32) J5 (fun (r2 : Int32) (J6 : cr_I) => cr_V Γ 120 [.ref 200, .int v1, .null, .int r2] [] J6 (cr_rf τ) 247))))))) ∧ (¬ v2 = (2 : Int32) → (p_yX9_skipsNumber τ J3 ∧ (∀ (r3 : Int32) (J7 : cr_I), q_yX9_skipsNumber τ J3 r3 J7 → ((¬ r3 = 0 → ((0 ≤ v1.toInt ∧ v1.toInt < 30) ∧ (∀ J8 : cr_I, J8 = cr_up J7 207 v1.toNatClampNeg v2 → ((0 ≤ v1.toInt ∧ v1.toInt < 30) ∧ (∀ J9 : cr_I, J9 = cr_up J8 208 v1.toNatClampNeg (J8 200 47) → (t_yX9_skips τ (464151 : Int64) (4 : Int32) J9 (fun (r4 : Int32) (J10 : cr_I) => cr_V Γ 120 [.ref 200, .int v1, .null, .int r4] [] J10 (cr_rf τ) 247))))))) ∧ (r3 = 0 → K (some (.int (0 : Int32))) J7 (cr_rf τ))))))))))) ∧ (v2 = (-1 : Int32) → K (some (.int (0 : Int32))) J1 (cr_rf τ)))))))) : cr_V Γ 0 [.ref 200, .null, .null, .null] [] I (cr_rf τ) 247 := by
  refine cr_bipush h (v := (24 : Int32)) (by decide) dX9_readsLine_0 ?_
  refine cr_aload_n h (j := 0) rfl rfl dX9_readsLine_2 ?_
  refine cr_getR h (k := 6) cr_clsX9 (by decide) rfl rfl wf_X9_25 (by decide) rfl rfl dX9_readsLine_3 ?_
  refine cr_iconst h (v := (4 : Int32)) (by decide) dX9_readsLine_6 ?_
  refine cs_ild h (by decide) rfl (by decide) (q := 4) (by decide) dX9_readsLine_7 ?_
  refine cr_iadd h dX9_readsLine_8 ?_
  refine cs_i_n h 1 rfl (by decide) rfl dX9_readsLine_9 (fun v1 ev1 => ?_)
  have hyp := hyp v1 ev1
  show cr_V Γ 10 [.ref 200, .int v1, .null, .null] [] I (cr_rf τ) 247
  refine cr_aload_n h (j := 0) rfl rfl dX9_readsLine_10 ?_
  refine cr_getR h (k := 9) cr_clsX9 (by decide) rfl rfl wf_X9_34 (by decide) rfl rfl dX9_readsLine_11 ?_
  refine cr_iload_n h (j := 1) rfl rfl dX9_readsLine_14 ?_
  refine cr_iconst h (v := (0 : Int32)) (by decide) dX9_readsLine_15 ?_
  refine cs_ist h (by decide) (by decide) rfl hyp.1 (q := v1.toNatClampNeg) rfl dX9_readsLine_16 (fun J1 eJ1 => ?_)
  have hyp := hyp.2 J1 eJ1
  refine cr_aload_n h (j := 0) rfl rfl dX9_readsLine_17 ?_
  refine cr_ldc2 h wc_X9_224 dX9_readsLine_18 ?_
  refine cr_iconst h (v := (4 : Int32)) (by decide) dX9_readsLine_21 ?_
  refine cr_callV h (c0 := 9) (T0 := TX9) C_yX9_isWord cZ_yX9_isWord wm_X9_190 wv_yX9_isWord we_yX9_isWord (by decide) rfl rfl (cr_rmS (by decide) (by decide)) (As := [.long (769427 : Int64), .int (4 : Int32)]) rfl (Nat.le_of_ble_eq_true rfl) dX9_readsLine_22 ⟨τ, (769427 : Int64), (4 : Int32), rfl, hτ, rfl, hyp.1, ?_⟩
  have hyp := hyp.2
  show cr_V Γ 25 [.ref 200, .int v1, .null, .null] [.int (f_yX9_isWord τ (769427 : Int64) (4 : Int32) J1)] J1 (cr_rf τ) 247
  have hsJ11 := hyp.1
  have htJ11 := hyp.2.1
  have hyp := hyp.2.2
  have J11 : cr_V Γ 63 [.ref 200, .int v1, .null, .null] [.int (if (f_yX9_isWord τ (769427 : Int64) (4 : Int32) J1) = 0 then (if (f_yX9_isWord τ (674854 : Int64) (4 : Int32) J1) = 0 then (if (f_yX9_isWord τ (529579 : Int64) (4 : Int32) J1) = 0 then (-1 : Int32) else (2 : Int32)) else (1 : Int32)) else (0 : Int32))] J1 (cr_rf τ) 247 := by
    refine cs_i_n h 2 rfl (by decide) rfl dX9_readsLine_63 (fun v2 ev2 => ?_)
    have hyp := hyp v2 ev2
    show cr_V Γ 64 [.ref 200, .int v1, .int v2, .null] [] J1 (cr_rf τ) 247
    refine cr_iload_n h (j := 2) rfl rfl dX9_readsLine_64 ?_
    refine cr_iconst h (v := (-1 : Int32)) (by decide) dX9_readsLine_65 ?_
    refine cr_icmp_ne h (tgt := 71) (by decide) dX9_readsLine_66 (fun c4 => ?_) (fun c4 => ?_)
    · have hyp := hyp.1 c4
      refine cr_aload_n h (j := 0) rfl rfl dX9_readsLine_71 ?_
      refine cr_callV h (c0 := 9) (T0 := TX9) C_yX9_token cZ_yX9_token wm_X9_194 wv_yX9_token we_yX9_token (by decide) rfl rfl (cr_rmS (by decide) (by decide)) (As := []) rfl (Nat.le_of_ble_eq_true rfl) dX9_readsLine_72 ⟨τ, rfl, hτ, rfl, hyp.1, fun J2 q1 => ?_⟩
      have hyp := hyp.2 J2 q1
      show cr_V Γ 75 [.ref 200, .int v1, .int v2, .null] [] J2 (cr_rf τ) 247
      refine cr_aload_n h (j := 0) rfl rfl dX9_readsLine_75 ?_
      refine cr_iconst h (v := (0 : Int32)) (by decide) dX9_readsLine_76 ?_
      refine cs_put h (k := 47) cr_clsX9 (by decide) rfl rfl rfl rfl wf_X9_197 (by decide) (by decide) rfl dX9_readsLine_77 (fun J3 eJ3 => ?_)
      have hyp := hyp J3 eJ3
      refine cr_iload_n h (j := 2) rfl rfl dX9_readsLine_80 ?_
      refine cr_iconst h (v := (2 : Int32)) (by decide) dX9_readsLine_81 ?_
      refine cr_icmp_eq h (tgt := 94) (by decide) dX9_readsLine_82 (fun c5 => ?_) (fun c5 => ?_)
      · have hyp := hyp.1 c5
        refine cr_aload_n h (j := 0) rfl rfl dX9_readsLine_94 ?_
        refine cr_getR h (k := 7) cr_clsX9 (by decide) rfl rfl wf_X9_28 (by decide) rfl rfl dX9_readsLine_95 ?_
        refine cr_iload_n h (j := 1) rfl rfl dX9_readsLine_98 ?_
        refine cr_iload_n h (j := 2) rfl rfl dX9_readsLine_99 ?_
        refine cs_ist h (by decide) (by decide) rfl hyp.1 (q := v1.toNatClampNeg) rfl dX9_readsLine_100 (fun J4 eJ4 => ?_)
        have hyp := hyp.2 J4 eJ4
        refine cr_aload_n h (j := 0) rfl rfl dX9_readsLine_101 ?_
        refine cr_getR h (k := 8) cr_clsX9 (by decide) rfl rfl wf_X9_31 (by decide) rfl rfl dX9_readsLine_102 ?_
        refine cr_iload_n h (j := 1) rfl rfl dX9_readsLine_105 ?_
        refine cr_aload_n h (j := 0) rfl rfl dX9_readsLine_106 ?_
        refine cr_getI h (k := 47) cr_clsX9 (by decide) rfl rfl wf_X9_197 (by decide) rfl dX9_readsLine_107 ?_
        refine cs_ist h (by decide) (by decide) rfl hyp.1 (q := v1.toNatClampNeg) rfl dX9_readsLine_110 (fun J5 eJ5 => ?_)
        have hyp := hyp.2 J5 eJ5
        refine cr_aload_n h (j := 0) rfl rfl dX9_readsLine_111 ?_
        refine cr_ldc2 h wc_X9_230 dX9_readsLine_112 ?_
        refine cr_iconst h (v := (4 : Int32)) (by decide) dX9_readsLine_115 ?_
        refine cr_callV h (c0 := 9) (T0 := TX9) C_yX9_skips cZ_yX9_skips wm_X9_232 wv_yX9_skips we_yX9_skips (by decide) rfl rfl (cr_rmS (by decide) (by decide)) (As := [.long (464151 : Int64), .int (4 : Int32)]) rfl (Nat.le_of_ble_eq_true rfl) dX9_readsLine_116 ⟨τ, (464151 : Int64), (4 : Int32), _, rfl, hτ, rfl, hyp, fun r2 J6 hyp => ?_⟩
        show cr_V Γ 119 [.ref 200, .int v1, .int v2, .null] [.int r2] J6 (cr_rf τ) 247
        refine cr_istore_n h (j := 3) rfl (by decide) rfl dX9_readsLine_119 ?_
        show cr_V Γ 120 [.ref 200, .int v1, .int v2, .int r2] [] J6 (cr_rf τ) 247
        exact cr_weak [true, true, false, true] hyp
      · have hyp := hyp.2 c5
        refine cr_aload_n h (j := 0) rfl rfl dX9_readsLine_85 ?_
        refine cr_callV h (c0 := 9) (T0 := TX9) C_yX9_skipsNumber cZ_yX9_skipsNumber wm_X9_220 wv_yX9_skipsNumber we_yX9_skipsNumber (by decide) rfl rfl (cr_rmS (by decide) (by decide)) (As := []) rfl (Nat.le_of_ble_eq_true rfl) dX9_readsLine_86 ⟨τ, rfl, hτ, rfl, hyp.1, fun r3 J7 q2 => ?_⟩
        have hyp := hyp.2 r3 J7 q2
        show cr_V Γ 89 [.ref 200, .int v1, .int v2, .null] [.int r3] J7 (cr_rf τ) 247
        refine cr_if_ne h (tgt := 94) (by decide) dX9_readsLine_89 (fun c6 => ?_) (fun c6 => ?_)
        · have hyp := hyp.1 c6
          refine cr_aload_n h (j := 0) rfl rfl dX9_readsLine_94 ?_
          refine cr_getR h (k := 7) cr_clsX9 (by decide) rfl rfl wf_X9_28 (by decide) rfl rfl dX9_readsLine_95 ?_
          refine cr_iload_n h (j := 1) rfl rfl dX9_readsLine_98 ?_
          refine cr_iload_n h (j := 2) rfl rfl dX9_readsLine_99 ?_
          refine cs_ist h (by decide) (by decide) rfl hyp.1 (q := v1.toNatClampNeg) rfl dX9_readsLine_100 (fun J8 eJ8 => ?_)
          have hyp := hyp.2 J8 eJ8
          refine cr_aload_n h (j := 0) rfl rfl dX9_readsLine_101 ?_
          refine cr_getR h (k := 8) cr_clsX9 (by decide) rfl rfl wf_X9_31 (by decide) rfl rfl dX9_readsLine_102 ?_
          refine cr_iload_n h (j := 1) rfl rfl dX9_readsLine_105 ?_
          refine cr_aload_n h (j := 0) rfl rfl dX9_readsLine_106 ?_
          refine cr_getI h (k := 47) cr_clsX9 (by decide) rfl rfl wf_X9_197 (by decide) rfl dX9_readsLine_107 ?_
          refine cs_ist h (by decide) (by decide) rfl hyp.1 (q := v1.toNatClampNeg) rfl dX9_readsLine_110 (fun J9 eJ9 => ?_)
          have hyp := hyp.2 J9 eJ9
          refine cr_aload_n h (j := 0) rfl rfl dX9_readsLine_111 ?_
          refine cr_ldc2 h wc_X9_230 dX9_readsLine_112 ?_
          refine cr_iconst h (v := (4 : Int32)) (by decide) dX9_readsLine_115 ?_
          refine cr_callV h (c0 := 9) (T0 := TX9) C_yX9_skips cZ_yX9_skips wm_X9_232 wv_yX9_skips we_yX9_skips (by decide) rfl rfl (cr_rmS (by decide) (by decide)) (As := [.long (464151 : Int64), .int (4 : Int32)]) rfl (Nat.le_of_ble_eq_true rfl) dX9_readsLine_116 ⟨τ, (464151 : Int64), (4 : Int32), _, rfl, hτ, rfl, hyp, fun r4 J10 hyp => ?_⟩
          show cr_V Γ 119 [.ref 200, .int v1, .int v2, .null] [.int r4] J10 (cr_rf τ) 247
          refine cr_istore_n h (j := 3) rfl (by decide) rfl dX9_readsLine_119 ?_
          show cr_V Γ 120 [.ref 200, .int v1, .int v2, .int r4] [] J10 (cr_rf τ) 247
          exact cr_weak [true, true, false, true] hyp
        · have hyp := hyp.2 c6
          refine cr_iconst h (v := (0 : Int32)) (by decide) dX9_readsLine_92 ?_
          refine cr_iret h rfl (by decide) rfl dX9_readsLine_93 ?_
          exact hyp
    · have hyp := hyp.2 c4
      refine cr_iconst h (v := (0 : Int32)) (by decide) dX9_readsLine_69 ?_
      refine cr_iret h rfl (by decide) rfl dX9_readsLine_70 ?_
      exact hyp
  refine cr_if_eq h (tgt := 32) (by decide) dX9_readsLine_25 (fun c1 => ?_) (fun c1 => ?_)
  · have hyp := hsJ11 c1
    refine cr_aload_n h (j := 0) rfl rfl dX9_readsLine_32 ?_
    refine cr_ldc2 h wc_X9_226 dX9_readsLine_33 ?_
    refine cr_iconst h (v := (4 : Int32)) (by decide) dX9_readsLine_36 ?_
    refine cr_callV h (c0 := 9) (T0 := TX9) C_yX9_isWord cZ_yX9_isWord wm_X9_190 wv_yX9_isWord we_yX9_isWord (by decide) rfl rfl (cr_rmS (by decide) (by decide)) (As := [.long (674854 : Int64), .int (4 : Int32)]) rfl (Nat.le_of_ble_eq_true rfl) dX9_readsLine_37 ⟨τ, (674854 : Int64), (4 : Int32), rfl, hτ, rfl, hyp.1, ?_⟩
    have hyp := hyp.2
    show cr_V Γ 40 [.ref 200, .int v1, .null, .null] [.int (f_yX9_isWord τ (674854 : Int64) (4 : Int32) J1)] J1 (cr_rf τ) 247
    refine cr_if_eq h (tgt := 47) (by decide) dX9_readsLine_40 (fun c2 => ?_) (fun c2 => ?_)
    · have hyp := hyp.1 c2
      refine cr_aload_n h (j := 0) rfl rfl dX9_readsLine_47 ?_
      refine cr_ldc2 h wc_X9_228 dX9_readsLine_48 ?_
      refine cr_iconst h (v := (4 : Int32)) (by decide) dX9_readsLine_51 ?_
      refine cr_callV h (c0 := 9) (T0 := TX9) C_yX9_isWord cZ_yX9_isWord wm_X9_190 wv_yX9_isWord we_yX9_isWord (by decide) rfl rfl (cr_rmS (by decide) (by decide)) (As := [.long (529579 : Int64), .int (4 : Int32)]) rfl (Nat.le_of_ble_eq_true rfl) dX9_readsLine_52 ⟨τ, (529579 : Int64), (4 : Int32), rfl, hτ, rfl, hyp.1, ?_⟩
      have hyp := hyp.2
      show cr_V Γ 55 [.ref 200, .int v1, .null, .null] [.int (f_yX9_isWord τ (529579 : Int64) (4 : Int32) J1)] J1 (cr_rf τ) 247
      refine cr_if_eq h (tgt := 62) (by decide) dX9_readsLine_55 (fun c3 => ?_) (fun c3 => ?_)
      · refine cr_iconst h (v := (-1 : Int32)) (by decide) dX9_readsLine_62 ?_
        exact cr_ite (by rw [if_pos c1, if_pos c2, if_pos c3]) J11
      · refine cr_iconst h (v := (2 : Int32)) (by decide) dX9_readsLine_58 ?_
        refine cr_goto h (tgt := 63) (by decide) dX9_readsLine_59 ?_
        exact cr_ite (by rw [if_pos c1, if_pos c2, if_neg c3]) J11
    · have hyp := hyp.2 c2
      refine cr_iconst h (v := (1 : Int32)) (by decide) dX9_readsLine_43 ?_
      refine cr_goto h (tgt := 63) (by decide) dX9_readsLine_44 ?_
      exact cr_ite (by rw [if_pos c1, if_neg c2]) J11
  · refine cr_iconst h (v := (0 : Int32)) (by decide) dX9_readsLine_28 ?_
    refine cr_goto h (tgt := 63) (by decide) dX9_readsLine_29 ?_
    exact cr_ite (by rw [if_neg c1]) J11
theorem bk_yX9_readsLine_120 {Γ : cr_G} {K : cr_K} {τ : Nat → Nat} {I : cr_I} {x1 : Int32} {x3 : Int32} (hτ : cr_tau τ)  (h : cr_Ok yX9_readsLine cX9_readsLine 4 (some .boolean) (cr_rm0 4 85) K 247 247 Γ) (hyp : (x3 = 0 → (∀ J12 : cr_I, J12 = cr_up I 206 4 ((I 206 4) + (1 : Int32)) → K (some (.int (1 : Int32))) J12 (cr_rf τ))) ∧ (¬ x3 = 0 → (t_yX9_readsTest τ x1 I (fun (r5 : Int32) (J13 : cr_I) => (¬ r5 = 0 → ((0 ≤ x1.toInt ∧ x1.toInt < 30) ∧ ((4 : Int32) ≤ (J13 209 x1.toNatClampNeg) → cr_V Γ 120 [.ref 200, .int x1, .null, .int (0 : Int32)] [] J13 (cr_rf τ) 247) ∧ (¬ (4 : Int32) ≤ (J13 209 x1.toNatClampNeg) → (t_yX9_skips τ (4545 : Int64) (3 : Int32) J13 (fun (r6 : Int32) (J14 : cr_I) => ∀ v3 : Int32, v3 = (if r6 = 0 then (0 : Int32) else (1 : Int32)) → cr_V Γ 120 [.ref 200, .int x1, .null, .int v3] [] J14 (cr_rf τ) 247))))) ∧ (r5 = 0 → K (some (.int (0 : Int32))) J13 (cr_rf τ)))))) : cr_V Γ 120 [.ref 200, .int x1, .null, .int x3] [] I (cr_rf τ) 247 := by
  refine cr_iload_n h (j := 3) rfl rfl dX9_readsLine_120 ?_
  refine cr_if_eq h (tgt := 164) (by decide) dX9_readsLine_121 (fun c7 => ?_) (fun c7 => ?_)
  · have hyp := hyp.1 c7
    refine cr_aload_n h (j := 0) rfl rfl dX9_readsLine_164 ?_
    refine cr_getR h (k := 6) cr_clsX9 (by decide) rfl rfl wf_X9_25 (by decide) rfl rfl dX9_readsLine_165 ?_
    refine cr_iconst h (v := (4 : Int32)) (by decide) dX9_readsLine_168 ?_
    refine cr_dup2 h rfl rfl dX9_readsLine_169 ?_
    refine cs_ild h (by decide) rfl (by decide) (q := 4) (by decide) dX9_readsLine_170 ?_
    refine cr_iconst h (v := (1 : Int32)) (by decide) dX9_readsLine_171 ?_
    refine cr_iadd h dX9_readsLine_172 ?_
    refine cs_ist h (by decide) (by decide) rfl (by decide) (q := 4) (by decide) dX9_readsLine_173 (fun J12 eJ12 => ?_)
    have hyp := hyp J12 eJ12
    refine cr_iconst h (v := (1 : Int32)) (by decide) dX9_readsLine_174 ?_
    refine cr_iret h rfl (by decide) rfl dX9_readsLine_175 ?_
    exact hyp
  · have hyp := hyp.2 c7
    refine cr_aload_n h (j := 0) rfl rfl dX9_readsLine_124 ?_
    refine cr_iload_n h (j := 1) rfl rfl dX9_readsLine_125 ?_
    refine cr_callV h (c0 := 9) (T0 := TX9) C_yX9_readsTest cZ_yX9_readsTest wm_X9_235 wv_yX9_readsTest we_yX9_readsTest (by decide) rfl rfl (cr_rmS (by decide) (by decide)) (As := [.int x1]) rfl (Nat.le_of_ble_eq_true rfl) dX9_readsLine_126 ⟨τ, x1, _, rfl, hτ, rfl, hyp, fun r5 J13 hyp => ?_⟩
    show cr_V Γ 129 [.ref 200, .int x1, .null, .int x3] [.int r5] J13 (cr_rf τ) 247
    refine cr_if_ne h (tgt := 134) (by decide) dX9_readsLine_129 (fun c8 => ?_) (fun c8 => ?_)
    · have hyp := hyp.1 c8
      refine cr_aload_n h (j := 0) rfl rfl dX9_readsLine_134 ?_
      refine cr_getR h (k := 9) cr_clsX9 (by decide) rfl rfl wf_X9_34 (by decide) rfl rfl dX9_readsLine_135 ?_
      refine cr_iload_n h (j := 1) rfl rfl dX9_readsLine_138 ?_
      refine cs_ild h (by decide) rfl hyp.1 (q := x1.toNatClampNeg) rfl dX9_readsLine_139 ?_
      have hyp := hyp.2
      refine cr_iconst h (v := (4 : Int32)) (by decide) dX9_readsLine_140 ?_
      refine cr_icmp_ge h (tgt := 159) (by decide) dX9_readsLine_141 (fun c9 => ?_) (fun c9 => ?_)
      · have hyp := hyp.1 c9
        refine cr_iconst h (v := (0 : Int32)) (by decide) dX9_readsLine_159 ?_
        refine cr_istore_n h (j := 3) rfl (by decide) rfl dX9_readsLine_160 ?_
        show cr_V Γ 161 [.ref 200, .int x1, .null, .int (0 : Int32)] [] J13 (cr_rf τ) 247
        refine cr_goto h (tgt := 120) (by decide) dX9_readsLine_161 ?_
        exact cr_weak [true, true, false, true] hyp
      · have hyp := hyp.2 c9
        refine cr_aload_n h (j := 0) rfl rfl dX9_readsLine_144 ?_
        refine cr_ldc2 h wc_X9_238 dX9_readsLine_145 ?_
        refine cr_iconst h (v := (3 : Int32)) (by decide) dX9_readsLine_148 ?_
        refine cr_callV h (c0 := 9) (T0 := TX9) C_yX9_skips cZ_yX9_skips wm_X9_232 wv_yX9_skips we_yX9_skips (by decide) rfl rfl (cr_rmS (by decide) (by decide)) (As := [.long (4545 : Int64), .int (3 : Int32)]) rfl (Nat.le_of_ble_eq_true rfl) dX9_readsLine_149 ⟨τ, (4545 : Int64), (3 : Int32), _, rfl, hτ, rfl, hyp, fun r6 J14 hyp => ?_⟩
        show cr_V Γ 152 [.ref 200, .int x1, .null, .int x3] [.int r6] J14 (cr_rf τ) 247
        have J15 : cr_V Γ 160 [.ref 200, .int x1, .null, .int x3] [.int (if r6 = 0 then (0 : Int32) else (1 : Int32))] J14 (cr_rf τ) 247 := by
          refine cs_i_n h 3 rfl (by decide) rfl dX9_readsLine_160 (fun v3 ev3 => ?_)
          have hyp := hyp v3 ev3
          show cr_V Γ 161 [.ref 200, .int x1, .null, .int v3] [] J14 (cr_rf τ) 247
          refine cr_goto h (tgt := 120) (by decide) dX9_readsLine_161 ?_
          exact cr_weak [true, true, false, true] hyp
        refine cr_if_eq h (tgt := 159) (by decide) dX9_readsLine_152 (fun c10 => ?_) (fun c10 => ?_)
        · refine cr_iconst h (v := (0 : Int32)) (by decide) dX9_readsLine_159 ?_
          exact cr_ite (by rw [if_pos c10]) J15
        · refine cr_iconst h (v := (1 : Int32)) (by decide) dX9_readsLine_155 ?_
          refine cr_goto h (tgt := 160) (by decide) dX9_readsLine_156 ?_
          exact cr_ite (by rw [if_neg c10]) J15
    · have hyp := hyp.2 c8
      refine cr_iconst h (v := (0 : Int32)) (by decide) dX9_readsLine_132 ?_
      refine cr_iret h rfl (by decide) rfl dX9_readsLine_133 ?_
      exact hyp
abbrev T_yX9_readsLine : cr_T := fun vs I R K => ∃ (τ : Nat → Nat), R = cr_rf τ ∧ cr_tau τ ∧ vs = [.ref 200] ∧ p_yX9_readsLine τ I ∧ ∀ (r : Int32) J, q_yX9_readsLine τ I r J → K (some (.int r)) J (cr_rf τ)
abbrev S_yX9_readsLine : Prop := cr_C yX9_readsLine cX9_readsLine 4 (some .boolean) (cr_rm0 4 85) 247 247 T_yX9_readsLine
theorem G_yX9_readsLine (H : ∀ (Γ : cr_G) (K : cr_K) (τ : Nat → Nat) (I : cr_I), cr_tau τ → cr_Ok yX9_readsLine cX9_readsLine 4 (some .boolean) (cr_rm0 4 85) K 247 247 Γ → p_yX9_readsLine τ I → (∀ (r : Int32) J, q_yX9_readsLine τ I r J → K (some (.int r)) J (cr_rf τ)) → cr_V Γ 0 [.ref 200, .null, .null, .null] [] I (cr_rf τ) 247) : cr_C yX9_readsLine cX9_readsLine 4 (some .boolean) (cr_rm0 4 85) 247 247 T_yX9_readsLine := by
  refine cr_C.of (by decide +kernel) (fun vs I R K hT => ?_) (fun Γ K h vs I R hT => ?_)
  · obtain ⟨τ, rfl, hτ, rfl, hp, hK⟩ := hT
    exact Nat.le_of_ble_eq_true rfl
  · obtain ⟨τ, rfl, hτ, rfl, hp, hK⟩ := hT
    exact H Γ K τ I hτ h hp hK
theorem C_yX9_readsLine : S_yX9_readsLine := G_yX9_readsLine (by
  intro Γ K τ I hτ h hp hK
  obtain ⟨hm, h60, h61⟩ := hp
  obtain ⟨ej, hj⟩ := cr_ofI (B := 5) h60 h61
  unfold q_yX9_readsLine cr_lnM at hK
  have hln : cr_lnS (I 205) (cr_mL I) (cr_mtk I) = if (cr_wsS (I 205) (cr_mL I) (cr_mtk I)).1 = true then (if cr_isW (I 205) (cr_wsS (I 205) (cr_mL I) (cr_mtk I)).2.1 3 = true then ((cr_tlS (I 205) (cr_mL I) (cr_wsS (I 205) (cr_mL I) (cr_mtk I)).2.1 4 0).1, (cr_tlS (I 205) (cr_mL I) (cr_wsS (I 205) (cr_mL I) (cr_mtk I)).2.1 4 0).2.1, (cr_wsS (I 205) (cr_mL I) (cr_mtk I)).2.2, (cr_tlS (I 205) (cr_mL I) (cr_wsS (I 205) (cr_mL I) (cr_mtk I)).2.1 4 0).2.2) else (true, (cr_wsS (I 205) (cr_mL I) (cr_mtk I)).2.1, (cr_wsS (I 205) (cr_mL I) (cr_mtk I)).2.2, 0)) else (false, (cr_wsS (I 205) (cr_mL I) (cr_mtk I)).2.1, 0, 0) := rfl
  have hws : cr_wsS (I 205) (cr_mL I) (cr_mtk I) = cr_wsS (I 205) (cr_mL I) (cr_mtk I) := rfl
  unfold cr_wsS at hws
  have htok := hm.2.2
  generalize hL : cr_mL I = L at *
  generalize hB : I 205 = B at *
  generalize hu : cr_mtk I = u at *
  generalize (I 206 4).toNatClampNeg = j at *
  have hev : (24 : Int32) + I 206 4 = nI (24 + j) := by rw [ej, show (24 : Int32) = nI 24 from rfl, nI_add]
  have hlc : (nI (24 + j)).toNatClampNeg = 24 + j := cr_nc (by omega)
  have hli : (0 : Int) ≤ (nI (24 + j)).toInt ∧ (nI (24 + j)).toInt < 30 := cr_ix (by omega) (by omega)
  generalize hl : 24 + j = l at *
  have fB : ∀ {J : cr_I}, cr_F (cr_Pq l) I J → J 205 = B := fun hf => by rw [← hB]; exact funext fun k => hf 205 k (by unfold cr_Pq; omega)
  have fL : ∀ {J : cr_I}, cr_F (cr_Pq l) I J → cr_mL J = L := fun hf => by rw [← hL]; unfold cr_mL; rw [hf 200 5 (by unfold cr_Pq; omega)]
  -- the tests, from the state behind the wish
  have tests : ∀ (ws : Bool × cr_tk × Int32), cr_wsS B L u = ws → ws.1 = true → ∀ J5, cr_F (cr_Pq l) I J5 → cr_mt J5 ws.2.1 → J5 206 4 = nI j → J5 209 l = 0 → cr_wk (J5 207 l) (J5 208 l) = ws.2.2 → (J5 207 l = 0 ∨ J5 207 l = 1 ∨ J5 207 l = 2) → (0 ≤ (J5 208 l).toInt ∧ (J5 208 l).toInt ≤ 99) → t_yX9_skips τ (464151 : Int64) (4 : Int32) J5 (fun (r2 : Int32) (J6 : cr_I) => cr_V Γ 120 [.ref 200, .int (nI l), .null, .int r2] [] J6 (cr_rf τ) 247) := by
    intro ws hwe w1 J5 hf5 m5 j5 n5 wk5 kd5 nb5
    have htw : cr_tok L ws.2.1 := by rw [← hwe]; exact cr_wsS_ok htok
    rw [hwe] at hln hK
    have fin : ∀ (J : cr_I) (tok : cr_tk) (n : Nat), cr_F (cr_Pq l) I J → cr_mt J tok → J 206 4 = nI j → J 209 l = nI n → cr_wk (J 207 l) (J 208 l) = ws.2.2 → (J 207 l = 0 ∨ J 207 l = 1 ∨ J 207 l = 2) → (0 ≤ (J 208 l).toInt ∧ (J 208 l).toInt ≤ 99) → (∀ k, k < n → J 210 (4 * l + k) = (cr_tsS B L (cr_tst B L ws.2.1 k)).2.2.1 ∧ J 211 (4 * l + k) = (cr_tsS B L (cr_tst B L ws.2.1 k)).2.2.2.1 ∧ J 212 (4 * l + k) = (cr_tsS B L (cr_tst B L ws.2.1 k)).2.2.2.2) → cr_lnS B L u = (true, tok, ws.2.2, n) → cr_V Γ 120 [.ref 200, .int (nI l), .null, .int 0] [] J (cr_rf τ) 247 := by
      intro J tok n hf m5 j5 n5 wk5 kd5 nb5 ts5 he
      refine bk_yX9_readsLine_120 hτ h ⟨fun _ => ?_, fun z => absurd rfl z⟩
      rw [j5, nI_1]
      rintro J12 rfl
      refine hK _ _ ⟨hf.up (by unfold cr_Pq; omega), ?_, fun _ => ⟨rfl, cr_up_s, ⟨?_, ?_, ?_⟩, ?_, fun k hk => ?_⟩, fun z => absurd (by rw [he]) z⟩
      · rw [he]; exact m5.eqv (cr_up_b (by decide)) (cr_up_b (by decide)) (cr_up_b (by decide)) (cr_up_b (by decide))
      · rw [cr_up_b (by decide), cr_up_b (by decide), he]; exact wk5
      · rw [cr_up_b (by decide)]; exact kd5
      · rw [cr_up_b (by decide)]; exact nb5
      · rw [cr_up_b (by decide), he]; exact n5
      · rw [cr_up_b (by decide), cr_up_b (by decide), cr_up_b (by decide)]
        rw [he] at hk
        exact ts5 k hk
    have key : ∀ m n, n + (m + 1) = 4 → ∀ (J : cr_I), cr_isW B ws.2.1 3 = true → cr_tlS B L ws.2.1 4 0 = cr_tlS B L ws.2.1 (m + 1) n → cr_F (cr_Pq l) I J → cr_mt J (cr_tst B L ws.2.1 n) → J 206 4 = nI j → J 209 l = nI n → cr_wk (J 207 l) (J 208 l) = ws.2.2 → (J 207 l = 0 ∨ J 207 l = 1 ∨ J 207 l = 2) → (0 ≤ (J 208 l).toInt ∧ (J 208 l).toInt ≤ 99) → (∀ k, k < n → J 210 (4 * l + k) = (cr_tsS B L (cr_tst B L ws.2.1 k)).2.2.1 ∧ J 211 (4 * l + k) = (cr_tsS B L (cr_tst B L ws.2.1 k)).2.2.2.1 ∧ J 212 (4 * l + k) = (cr_tsS B L (cr_tst B L ws.2.1 k)).2.2.2.2) → cr_V Γ 120 [.ref 200, .int (nI l), .null, .int 1] [] J (cr_rf τ) 247 := by
      intro m
      induction m with
      | zero =>
        intro n hn J w3 hR hf m5 j5 n5 wk5 kd5 nb5 ts5
        refine bk_yX9_readsLine_120 hτ h ⟨fun z => absurd z (by decide), fun _ => cw_readsTest m5 hli (by rw [hlc]; exact n5) (by omega) (fun r J13 g1 g2 g3 g4 => ?_)⟩
        rw [fB hf, fL hf] at g2 g3 g4
        rw [hlc] at g1 g3 ⊢
        have hR := hR.trans (show cr_tlS B L ws.2.1 (0 + 1) n = (if (cr_tsS B L (cr_tst B L ws.2.1 n)).1 = true then (if cr_isW B (cr_tsS B L (cr_tst B L ws.2.1 n)).2.1 12 = true then cr_tlS B L ws.2.1 0 (n + 1) else (true, (cr_tsS B L (cr_tst B L ws.2.1 n)).2.1, n + 1)) else (false, (cr_tsS B L (cr_tst B L ws.2.1 n)).2.1, n)) from rfl)
        have hf' : cr_F (cr_Pq l) I J13 := hf.tr (g1.wd (fun b i z => by unfold cr_Pt at z; unfold cr_Pq; omega))
        have o1 : J13 206 4 = nI j := by rw [g1 206 4 (by unfold cr_Pt; omega)]; exact j5
        have o2 : J13 207 l = J 207 l := g1 207 l (by unfold cr_Pt; omega)
        have o3 : J13 208 l = J 208 l := g1 208 l (by unfold cr_Pt; omega)
        by_cases ok : (cr_tsS B L (cr_tst B L ws.2.1 n)).1 = true
        · obtain ⟨rfl, g5, g6, g7, g8⟩ := g3 ok
          rw [g5]
          refine ⟨fun _ => ⟨hli, fun _ => ?_, fun z => absurd ?_ z⟩, fun z => absurd z (by decide)⟩
          · refine fin J13 _ (n + 1) hf' g2 o1 g5 (by rw [o2, o3]; exact wk5) (by rw [o2]; exact kd5) (by rw [o3]; exact nb5) (fun k hk => ?_) ?_
            · by_cases e : k = n
              · rw [e]; exact ⟨g6, g7, g8⟩
              · rw [g1 210 _ (by unfold cr_Pt; omega), g1 211 _ (by unfold cr_Pt; omega), g1 212 _ (by unfold cr_Pt; omega)]
                exact ts5 k (by omega)
            · rw [hln, if_pos w1, if_pos w3]
              rw [if_pos ok] at hR
              by_cases a : cr_isW B (cr_tsS B L (cr_tst B L ws.2.1 n)).2.1 12 = true
              · rw [if_pos a] at hR
                have hR := hR.trans (show cr_tlS B L ws.2.1 0 (n + 1) = (true, (cr_tsS B L (cr_tst B L ws.2.1 n)).2.1, n + 1) from rfl)
                rw [hR]
              · rw [if_neg a] at hR
                rw [hR]
          · exact (cr_nlq (a := 4) (by omega) (by omega)).mpr (by omega)
        · have r0 := g4 ok
          subst r0
          refine ⟨fun z => absurd rfl z, fun _ => hK _ _ ⟨hf', ?_, fun z => ?_, fun _ => rfl⟩⟩
          · rw [hln, if_pos w1, if_pos w3]
            rw [if_neg ok] at hR
            rw [hR]
            exact g2
          · rw [hln, if_pos w1, if_pos w3] at z
            rw [if_neg ok] at hR
            rw [hR] at z
            exact Bool.noConfusion z
      | succ m ih =>
        intro n hn J w3 hR hf m5 j5 n5 wk5 kd5 nb5 ts5
        refine bk_yX9_readsLine_120 hτ h ⟨fun z => absurd z (by decide), fun _ => cw_readsTest m5 hli (by rw [hlc]; exact n5) (by omega) (fun r J13 g1 g2 g3 g4 => ?_)⟩
        rw [fB hf, fL hf] at g2 g3 g4
        rw [hlc] at g1 g3 ⊢
        have hR' : cr_tlS B L ws.2.1 4 0 = if (cr_tsS B L (cr_tst B L ws.2.1 n)).1 = true then (if cr_isW B (cr_tsS B L (cr_tst B L ws.2.1 n)).2.1 12 = true then cr_tlS B L ws.2.1 (m + 1) (n + 1) else (true, (cr_tsS B L (cr_tst B L ws.2.1 n)).2.1, n + 1)) else (false, (cr_tsS B L (cr_tst B L ws.2.1 n)).2.1, n) := hR.trans (by rw [cr_tlS])
        have hf' : cr_F (cr_Pq l) I J13 := hf.tr (g1.wd (fun b i z => by unfold cr_Pt at z; unfold cr_Pq; omega))
        have o1 : J13 206 4 = nI j := by rw [g1 206 4 (by unfold cr_Pt; omega)]; exact j5
        have o2 : J13 207 l = J 207 l := g1 207 l (by unfold cr_Pt; omega)
        have o3 : J13 208 l = J 208 l := g1 208 l (by unfold cr_Pt; omega)
        by_cases ok : (cr_tsS B L (cr_tst B L ws.2.1 n)).1 = true
        · obtain ⟨rfl, g5, g6, g7, g8⟩ := g3 ok
          rw [if_pos ok] at hR'
          rw [g5]
          have ts' : ∀ k, k < n + 1 → J13 210 (4 * l + k) = (cr_tsS B L (cr_tst B L ws.2.1 k)).2.2.1 ∧ J13 211 (4 * l + k) = (cr_tsS B L (cr_tst B L ws.2.1 k)).2.2.2.1 ∧ J13 212 (4 * l + k) = (cr_tsS B L (cr_tst B L ws.2.1 k)).2.2.2.2 := by
            intro k hk
            by_cases e : k = n
            · rw [e]; exact ⟨g6, g7, g8⟩
            · rw [g1 210 _ (by unfold cr_Pt; omega), g1 211 _ (by unfold cr_Pt; omega), g1 212 _ (by unfold cr_Pt; omega)]
              exact ts5 k (by omega)
          refine ⟨fun _ => ⟨hli, fun z => absurd z (nI_ge (a := n + 1) (b := 4) (by omega) (by omega)), fun _ => ?_⟩, fun z => absurd z (by decide)⟩
          refine cw_skips g2 12 (by decide) (by decide) (by decide) (fun a J14 k1 k2 => ?_) (fun a => ?_)
          · rintro v rfl
            rw [fB hf'] at a k2
            rw [fL hf'] at k2
            rw [if_pos a] at hR'
            refine ih (n + 1) (by omega) J14 w3 hR' (hf'.tr (k1.F (fun b i z => by unfold cr_Pq; omega))) k2 ?_ ?_ ?_ ?_ ?_ (fun k hk => ?_)
            · rw [k1 206 4 (by omega)]; exact o1
            · rw [k1 209 l (by omega)]; exact g5
            · rw [k1 207 l (by omega), k1 208 l (by omega), o2, o3]; exact wk5
            · rw [k1 207 l (by omega), o2]; exact kd5
            · rw [k1 208 l (by omega), o3]; exact nb5
            · rw [k1 210 _ (by omega), k1 211 _ (by omega), k1 212 _ (by omega)]; exact ts' k hk
          · rintro v rfl
            rw [fB hf'] at a
            rw [if_neg a] at hR'
            exact fin J13 _ (n + 1) hf' g2 o1 g5 (by rw [o2, o3]; exact wk5) (by rw [o2]; exact kd5) (by rw [o3]; exact nb5) ts' (by rw [hln, if_pos w1, if_pos w3, hR'])
        · have r0 := g4 ok
          subst r0
          rw [if_neg ok] at hR'
          refine ⟨fun z => absurd rfl z, fun _ => hK _ _ ⟨hf', ?_, fun z => ?_, fun _ => rfl⟩⟩
          · rw [hln, if_pos w1, if_pos w3, hR']
            exact g2
          · rw [hln, if_pos w1, if_pos w3, hR'] at z
            exact Bool.noConfusion z
    refine cw_skips m5 3 (by decide) (by decide) (by decide) (fun a J6 k1 k2 => ?_) (fun a => ?_)
    · rw [fB hf5] at a k2
      rw [fL hf5] at k2
      refine key 3 0 rfl J6 a rfl (hf5.tr (k1.F (fun b i z => by unfold cr_Pq; omega))) k2 ?_ ?_ ?_ ?_ ?_ (fun k hk => absurd hk (Nat.not_lt_zero _))
      · rw [k1 206 4 (by omega)]; exact j5
      · rw [k1 209 l (by omega)]; exact n5
      · rw [k1 207 l (by omega), k1 208 l (by omega)]; exact wk5
      · rw [k1 207 l (by omega)]; exact kd5
      · rw [k1 208 l (by omega)]; exact nb5
    · rw [fB hf5] at a
      exact fin J5 ws.2.1 0 hf5 m5 j5 n5 wk5 kd5 nb5 (fun k hk => absurd hk (Nat.not_lt_zero _)) (by rw [hln, if_pos w1, if_neg a])
  -- the wish
  refine bk_yX9_readsLine_0 hτ h ?_
  rw [hev]
  rintro v1 rfl
  rw [hlc]
  refine ⟨hli, ?_⟩
  rintro J1 rfl
  have f1 : cr_F (cr_Pq l) I (cr_up I 209 l 0) := cr_F.rf.up (by unfold cr_Pq; omega)
  have m1 : cr_mt (cr_up I 209 l 0) u := hm.eqv (cr_up_b (by decide)) (cr_up_b (by decide)) (cr_up_b (by decide)) (cr_up_b (by decide))
  have n1 : cr_up I 209 l 0 209 l = 0 := cr_up_s
  have j1 : cr_up I 209 l 0 206 4 = nI j := by rw [cr_up_b (by decide)]; exact ej
  generalize cr_up I 209 l 0 = J1 at *
  have h1 := m1.w (τ := τ) 1 (W := 769427) (n := 4) (by decide) (by decide) (by decide)
  have h2 := m1.w (τ := τ) 2 (W := 674854) (n := 4) (by decide) (by decide) (by decide)
  have h0 := m1.w (τ := τ) 0 (W := 529579) (n := 4) (by decide) (by decide) (by decide)
  rw [fB f1] at h1 h2 h0
  refine ⟨h1.1, fun _ => ⟨h2.1, fun _ => ⟨h0.1, trivial⟩, fun _ => trivial⟩, fun _ => trivial, ?_⟩
  rw [h1.2, h2.2, h0.2]
  have ha := m1.adv (τ := τ)
  rw [fB f1, fL f1] at ha
  -- slow, fast
  have num : ∀ v2 : Int32, (v2 = 0 ∨ v2 = 1) → cr_wsS B L u = (if cr_isN B L (cr_nx B L u) = true then (true, cr_nx B L (cr_nx B L u), cr_wk v2 (cr_num B (cr_nx B L u))) else (false, cr_nx B L u, 0)) → ∀ J2, q_yX9_token τ J1 J2 → ∀ J3, J3 = cr_up J2 200 47 (0 : Int32) → (p_yX9_skipsNumber τ J3 ∧ (∀ (r3 : Int32) (J7 : cr_I), q_yX9_skipsNumber τ J3 r3 J7 → ((¬ r3 = 0 → ((0 ≤ (nI l).toInt ∧ (nI l).toInt < 30) ∧ (∀ J8 : cr_I, J8 = cr_up J7 207 l v2 → ((0 ≤ (nI l).toInt ∧ (nI l).toInt < 30) ∧ (∀ J9 : cr_I, J9 = cr_up J8 208 l (J8 200 47) → (t_yX9_skips τ (464151 : Int64) (4 : Int32) J9 (fun (r4 : Int32) (J10 : cr_I) => cr_V Γ 120 [.ref 200, .int (nI l), .null, .int r4] [] J10 (cr_rf τ) 247))))))) ∧ (r3 = 0 → K (some (.int (0 : Int32))) J7 (cr_rf τ))))) := by
    intro v2 hv2 hwse J2 hJ2 J3 e3
    obtain ⟨g1, g2⟩ := ha.2 J2 hJ2
    have f2 : cr_F (cr_Pq l) I J2 := f1.tr (g1.F (fun b i z => by unfold cr_Pq; omega))
    have f3 : cr_F (cr_Pq l) I J3 := by rw [e3]; exact f2.up (by unfold cr_Pq; omega)
    have m3 : cr_mt J3 (cr_nx B L u) := by rw [e3]; exact g2.eqv (cr_up_k (by decide)) (cr_up_k (by decide)) (cr_up_k (by decide)) (cr_up_k (by decide))
    have n3 : J3 209 l = 0 := by rw [e3, cr_up_b (by decide), g1 209 l (by omega)]; exact n1
    have j3 : J3 206 4 = nI j := by rw [e3, cr_up_b (by decide), g1 206 4 (by omega)]; exact j1
    have t3 := m3.tk
    refine ⟨by unfold p_yX9_skipsNumber; rw [t3]; exact m3, fun r J7 hq => ?_⟩
    unfold q_yX9_skipsNumber at hq
    rw [t3, fB f3, fL f3] at hq
    obtain ⟨f37, hy, hno⟩ := hq
    have f7 : cr_F (cr_Pq l) I J7 := f3.tr (f37.wd (fun b i z => by unfold cr_P4 at z; unfold cr_Pq; omega))
    by_cases q : cr_isN B L (cr_nx B L u) = true
    · obtain ⟨rfl, e47, g5⟩ := hy q
      rw [if_pos q] at hwse
      refine ⟨fun _ => ⟨hli, ?_⟩, fun z => absurd z (by decide)⟩
      rintro J8 rfl
      refine ⟨hli, ?_⟩
      rw [cr_up_b (show (200 : Nat) ≠ 207 by decide), e47]
      rintro J9 rfl
      refine tests _ hwse rfl _ ((f7.up (by unfold cr_Pq; omega)).up (by unfold cr_Pq; omega)) (g5.eqv ?_ ?_ ?_ ?_) ?_ ?_ ?_ ?_ ?_
      · rw [cr_up_b (by decide), cr_up_b (by decide)]
      · rw [cr_up_b (by decide), cr_up_b (by decide)]
      · rw [cr_up_b (by decide), cr_up_b (by decide)]
      · rw [cr_up_b (by decide), cr_up_b (by decide)]
      · rw [cr_up_b (by decide), cr_up_b (by decide), f37 206 4 (by unfold cr_P4; omega), j3]
      · rw [cr_up_b (by decide), cr_up_b (by decide), f37 209 l (by unfold cr_P4; omega), n3]
      · rw [cr_up_b (show (207 : Nat) ≠ 208 by decide), cr_up_s, cr_up_s]
      · rw [cr_up_b (show (207 : Nat) ≠ 208 by decide), cr_up_s]
        rcases hv2 with z | z
        · exact Or.inl z
        · exact Or.inr (Or.inl z)
      · rw [cr_up_s]
        exact cr_num_b htok.2 q
    · obtain ⟨rfl, g5⟩ := hno q
      rw [if_neg q] at hwse
      refine ⟨fun z => absurd rfl z, fun _ => hK _ _ ⟨f7, ?_, fun z => ?_, fun _ => rfl⟩⟩
      · rw [hln, hwse]
        exact g5
      · rw [hln, hwse] at z
        exact Bool.noConfusion z
  rintro v2 rfl
  by_cases q1 : cr_isW B u 1 = true
  · have q0 := cr_isW_ne (w' := 0) (by decide) (by decide) q1 (by decide)
    rw [if_pos q1, if_neg (show ¬ ((1 : Int32) = 0) by decide)]
    refine ⟨fun _ => ⟨ha.1, fun J2 hJ2 J3 e3 => ⟨fun z => absurd z (by decide), fun _ => ?_⟩⟩, fun z => absurd z (by decide)⟩
    exact num 0 (Or.inl rfl) (by unfold cr_wsS; rw [if_neg q0, if_pos q1]; rfl) J2 hJ2 J3 e3
  · rw [if_neg q1, if_pos rfl]
    by_cases q2 : cr_isW B u 2 = true
    · have q0 := cr_isW_ne (w' := 0) (by decide) (by decide) q2 (by decide)
      rw [if_pos q2, if_neg (show ¬ ((1 : Int32) = 0) by decide)]
      refine ⟨fun _ => ⟨ha.1, fun J2 hJ2 J3 e3 => ⟨fun z => absurd z (by decide), fun _ => ?_⟩⟩, fun z => absurd z (by decide)⟩
      exact num 1 (Or.inr rfl) (by unfold cr_wsS; rw [if_neg q0, if_neg q1, if_pos q2]; rfl) J2 hJ2 J3 e3
    · rw [if_neg q2, if_pos rfl]
      by_cases q0 : cr_isW B u 0 = true
      · rw [if_pos q0, if_neg (show ¬ ((1 : Int32) = 0) by decide)]
        have hwse : cr_wsS B L u = (true, cr_nx B L u, 0) := by unfold cr_wsS; rw [if_pos q0]
        refine ⟨fun _ => ⟨ha.1, fun J2 hJ2 J3 e3 => ⟨fun _ => ⟨hli, ?_⟩, fun z => absurd rfl z⟩⟩, fun z => absurd z (by decide)⟩
        obtain ⟨g1, g2⟩ := ha.2 J2 hJ2
        have f2 : cr_F (cr_Pq l) I J2 := f1.tr (g1.F (fun b i z => by unfold cr_Pq; omega))
        have f3 : cr_F (cr_Pq l) I J3 := by rw [e3]; exact f2.up (by unfold cr_Pq; omega)
        have m3 : cr_mt J3 (cr_nx B L u) := by rw [e3]; exact g2.eqv (cr_up_k (by decide)) (cr_up_k (by decide)) (cr_up_k (by decide)) (cr_up_k (by decide))
        have n3 : J3 209 l = 0 := by rw [e3, cr_up_b (by decide), g1 209 l (by omega)]; exact n1
        have j3 : J3 206 4 = nI j := by rw [e3, cr_up_b (by decide), g1 206 4 (by omega)]; exact j1
        have e47 : J3 200 47 = 0 := by rw [e3, cr_up_s]
        rintro J4 rfl
        refine ⟨hli, ?_⟩
        rw [cr_up_b (show (200 : Nat) ≠ 207 by decide), e47]
        rintro J5 rfl
        refine tests _ hwse rfl _ ((f3.up (by unfold cr_Pq; omega)).up (by unfold cr_Pq; omega)) (m3.eqv ?_ ?_ ?_ ?_) ?_ ?_ ?_ ?_ ?_
        · rw [cr_up_b (by decide), cr_up_b (by decide)]
        · rw [cr_up_b (by decide), cr_up_b (by decide)]
        · rw [cr_up_b (by decide), cr_up_b (by decide)]
        · rw [cr_up_b (by decide), cr_up_b (by decide)]
        · rw [cr_up_b (by decide), cr_up_b (by decide), j3]
        · rw [cr_up_b (by decide), cr_up_b (by decide), n3]
        · rw [cr_up_b (show (207 : Nat) ≠ 208 by decide), cr_up_s, cr_up_s]
          rfl
        · rw [cr_up_b (show (207 : Nat) ≠ 208 by decide), cr_up_s]
          exact Or.inr (Or.inr rfl)
        · rw [cr_up_s]
          decide
      · rw [if_neg q0, if_pos rfl]
        have hwse : cr_wsS B L u = (false, u, 0) := by unfold cr_wsS; rw [if_neg q0, if_neg q1, if_neg q2]
        refine ⟨fun z => absurd rfl z, fun _ => hK _ _ ⟨f1, ?_, fun z => ?_, fun _ => rfl⟩⟩
        · rw [hln, hwse]
          exact m1
        · rw [hln, hwse] at z
          exact Bool.noConfusion z)
