theorem cr_lshr {y : MethodName} {cc : ByteArray} {nL : Nat} {ret : Option FieldType} {rm : Room} {K : cr_K} {nS nE : Nat} {Γ : cr_G} {pc : Nat} {ls st : List Value} {I : cr_I} {R : cr_R} {n : Nat} (h : cr_Ok y cc nL ret rm K nS nE Γ) {x0 : Int64} {y0 : Int32} (d : decode cc pc = .ok (.lshr, 1)) (k : cr_V Γ (pc + 1) ls (.long (x0 >>> (y0.toInt64 &&& 63)) :: st) I R n) : cr_V Γ pc ls (.int y0 :: .long x0 :: st) I R n := by
  obtain ⟨⟨p, l, e, Rm, s, m, args, below, meth, c⟩, Q, D, g, ad, base, n0⟩ := Γ
  obtain ⟨hx, hb, hml, hown, hts, hK, hST, hlk, hrt, hA, hs0, hQ, hrm, hnm, hn0⟩ := h
  intro H locs la hP hz hS hl
  exact lv_lshr hx hb d rfl (k H locs la hP hz hS hl)
/-! tokens: the reference -/
def cr_mL (I : cr_I) : Nat := (I 200 5).toNatClampNeg
def cr_mt (I : cr_I) (t : cr_tk) : Prop := (I 200 5 = nI (cr_mL I) ∧ cr_mL I ≤ 160) ∧ (I 200 44 = nI t.2 ∧ I 200 45 = nI t.1 ∧ I 200 46 = nI t.2) ∧ cr_tok (cr_mL I) t
/-- only at, place and end changed -/
def cr_f3 (I J : cr_I) : Prop := ∀ b k, ¬ (b = 200 ∧ 44 ≤ k ∧ k ≤ 46) → J b k = I b k
theorem cr_f3.tr {I J L : cr_I} (h1 : cr_f3 I J) (h2 : cr_f3 J L) : cr_f3 I L := fun b k h => (h2 b k h).trans (h1 b k h)
theorem cr_f3.up {I J : cr_I} {k : Nat} {v : Int32} (h : cr_f3 I J) (hk : 44 ≤ k ∧ k ≤ 46) : cr_f3 I (cr_up J 200 k v) := by
  intro b k' hb
  unfold cr_up
  rw [if_neg (by omega)]
  exact h b k' hb
theorem cr_f3.L {I J : cr_I} (h : cr_f3 I J) : cr_mL J = cr_mL I ∧ J 205 = I 205 ∧ J 200 5 = I 200 5 ∧ J 200 47 = I 200 47 := ⟨by unfold cr_mL; rw [h 200 5 (by omega)], funext fun k => h 205 k (by omega), h 200 5 (by omega), h 200 47 (by omega)⟩
def p_yX9_token (τ : Nat → Nat) (I : cr_I) : Prop := (0 ≤ (I 200 5).toInt ∧ (I 200 5).toInt ≤ 160) ∧ 0 ≤ (I 200 44).toInt ∧ (I 200 44).toInt ≤ (I 200 5).toInt
def q_yX9_token (τ : Nat → Nat) (I J : cr_I) : Prop := cr_f3 I J ∧ cr_mt J (cr_nx (I 205) (cr_mL I) (0, (I 200 44).toNatClampNeg))
theorem cr_srt {τ : Nat → Nat} {c : Int32} {I : cr_I} : f_yX9_sort τ c I = if cr_kdS c = 0 then 1 else if cr_kdS c = 1 then 2 else 0 := by
  unfold f_yX9_sort cr_kdS f_yX7_kindOf f_yX7_isDigit
  have a48 : (48 : Int32).toInt = 48 := rfl
  have a57 : (57 : Int32).toInt = 57 := rfl
  have a97 : (97 : Int32).toInt = 97 := rfl
  have a122 : (122 : Int32).toInt = 122 := rfl
  simp only [cr_lt, a48, a57, a97, a122]
  by_cases q1 : c.toInt < 97
  · rw [if_pos q1, if_pos q1]
    by_cases q2 : c.toInt < 48
    · simp [q2]
    · by_cases q3 : 57 < c.toInt
      · simp [q2, q3]
      · simp [q2, q3]
  · rw [if_neg q1, if_neg q1]
    have q2 : ¬ c.toInt < 48 := by omega
    have q3 : 57 < c.toInt := by omega
    by_cases q4 : 122 < c.toInt
    · simp [q2, q3, q4]
    · simp [q4]
theorem cr_srt_le {τ : Nat → Nat} {c : Int32} {I : cr_I} : (f_yX9_sort τ c I ≤ 0) ↔ cr_kdS c = 2 := by
  rw [cr_srt]
  rcases cr_kdS_3 c with h | h | h <;> rw [h] <;> decide
theorem cr_srt_eq {τ : Nat → Nat} {c d : Int32} {I : cr_I} : (f_yX9_sort τ c I = f_yX9_sort τ d I) ↔ cr_kdS c = cr_kdS d := by
  rw [cr_srt, cr_srt]
  rcases cr_kdS_3 c with h | h | h <;> rcases cr_kdS_3 d with g | g | g <;> rw [h, g] <;> decide
theorem cr_srt_2 {τ : Nat → Nat} {c : Int32} {I : cr_I} : (f_yX9_sort τ c I = 2) ↔ cr_kdS c = 1 := by
  rw [cr_srt]
  rcases cr_kdS_3 c with h | h | h <;> rw [h] <;> decide
theorem bk_yX9_token_0 {Γ : cr_G} {K : cr_K} {τ : Nat → Nat} {I : cr_I}  (hτ : cr_tau τ)  (h : cr_Ok yX9_token cX9_token 1 none (cr_rm0 1 20) K 247 247 Γ) (hyp : ((I 200 5) ≤ (I 200 44) → cr_V Γ 38 [.ref 200] [] I (cr_rf τ) 247) ∧ (¬ (I 200 5) ≤ (I 200 44) → ((0 ≤ (I 200 44).toInt ∧ (I 200 44).toInt < 160) ∧ (¬ (I 205 (I 200 44).toNatClampNeg) = (32 : Int32) → cr_V Γ 38 [.ref 200] [] I (cr_rf τ) 247) ∧ ((I 205 (I 200 44).toNatClampNeg) = (32 : Int32) → (∀ J1 : cr_I, J1 = cr_up I 200 44 ((I 200 44) + (1 : Int32)) → cr_V Γ 0 [.ref 200] [] J1 (cr_rf τ) 247))))) : cr_V Γ 0 [.ref 200] [] I (cr_rf τ) 247 := by
  refine cr_aload_n h (j := 0) rfl rfl dX9_token_0 ?_
  refine cr_getI h (k := 44) cr_clsX9 (by decide) rfl rfl wf_X9_175 (by decide) rfl dX9_token_1 ?_
  refine cr_aload_n h (j := 0) rfl rfl dX9_token_4 ?_
  refine cr_getI h (k := 5) cr_clsX9 (by decide) rfl rfl wf_X9_170 (by decide) rfl dX9_token_5 ?_
  refine cr_icmp_ge h (tgt := 38) (by decide) dX9_token_8 (fun c1 => ?_) (fun c1 => ?_)
  · have hyp := hyp.1 c1
    exact cr_weak [true] hyp
  · have hyp := hyp.2 c1
    refine cr_aload_n h (j := 0) rfl rfl dX9_token_11 ?_
    refine cr_getR h (k := 4) cr_clsX9 (by decide) rfl rfl wf_X9_22 (by decide) rfl rfl dX9_token_12 ?_
    refine cr_aload_n h (j := 0) rfl rfl dX9_token_15 ?_
    refine cr_getI h (k := 44) cr_clsX9 (by decide) rfl rfl wf_X9_175 (by decide) rfl dX9_token_16 ?_
    refine cs_ild h (by decide) rfl hyp.1 (q := (I 200 44).toNatClampNeg) rfl dX9_token_19 ?_
    have hyp := hyp.2
    refine cr_bipush h (v := (32 : Int32)) (by decide) dX9_token_20 ?_
    refine cr_icmp_ne h (tgt := 38) (by decide) dX9_token_22 (fun c2 => ?_) (fun c2 => ?_)
    · have hyp := hyp.1 c2
      exact cr_weak [true] hyp
    · have hyp := hyp.2 c2
      refine cr_aload_n h (j := 0) rfl rfl dX9_token_25 ?_
      refine cr_dup h rfl dX9_token_26 ?_
      refine cr_getI h (k := 44) cr_clsX9 (by decide) rfl rfl wf_X9_175 (by decide) rfl dX9_token_27 ?_
      refine cr_iconst h (v := (1 : Int32)) (by decide) dX9_token_30 ?_
      refine cr_iadd h dX9_token_31 ?_
      refine cs_put h (k := 44) cr_clsX9 (by decide) rfl rfl rfl rfl wf_X9_175 (by decide) (by decide) rfl dX9_token_32 (fun J1 eJ1 => ?_)
      have hyp := hyp J1 eJ1
      refine cr_goto h (tgt := 0) (by decide) dX9_token_35 ?_
      exact cr_weak [true] hyp
theorem bk_yX9_token_38 {Γ : cr_G} {K : cr_K} {τ : Nat → Nat} {I : cr_I}  (hτ : cr_tau τ)  (h : cr_Ok yX9_token cX9_token 1 none (cr_rm0 1 20) K 247 247 Γ) (hyp : ∀ J2 : cr_I, J2 = cr_up I 200 45 (I 200 44) → (∀ J3 : cr_I, J3 = cr_up J2 200 44 ((J2 200 44) + (if (J2 200 5) ≤ (J2 200 44) then (0 : Int32) else (1 : Int32))) → cr_V Γ 71 [.ref 200] [] J3 (cr_rf τ) 247)) : cr_V Γ 38 [.ref 200] [] I (cr_rf τ) 247 := by
  refine cr_aload_n h (j := 0) rfl rfl dX9_token_38 ?_
  refine cr_aload_n h (j := 0) rfl rfl dX9_token_39 ?_
  refine cr_getI h (k := 44) cr_clsX9 (by decide) rfl rfl wf_X9_175 (by decide) rfl dX9_token_40 ?_
  refine cs_put h (k := 45) cr_clsX9 (by decide) rfl rfl rfl rfl wf_X9_178 (by decide) (by decide) rfl dX9_token_43 (fun J2 eJ2 => ?_)
  have hyp := hyp J2 eJ2
  refine cr_aload_n h (j := 0) rfl rfl dX9_token_46 ?_
  refine cr_dup h rfl dX9_token_47 ?_
  refine cr_getI h (k := 44) cr_clsX9 (by decide) rfl rfl wf_X9_175 (by decide) rfl dX9_token_48 ?_
  refine cr_aload_n h (j := 0) rfl rfl dX9_token_51 ?_
  refine cr_getI h (k := 44) cr_clsX9 (by decide) rfl rfl wf_X9_175 (by decide) rfl dX9_token_52 ?_
  refine cr_aload_n h (j := 0) rfl rfl dX9_token_55 ?_
  refine cr_getI h (k := 5) cr_clsX9 (by decide) rfl rfl wf_X9_170 (by decide) rfl dX9_token_56 ?_
  have J4 : cr_V Γ 67 [.ref 200] [.int (if (J2 200 5) ≤ (J2 200 44) then (0 : Int32) else (1 : Int32)), .int (J2 200 44), .ref 200] J2 (cr_rf τ) 247 := by
    refine cr_iadd h dX9_token_67 ?_
    refine cs_put h (k := 44) cr_clsX9 (by decide) rfl rfl rfl rfl wf_X9_175 (by decide) (by decide) rfl dX9_token_68 (fun J3 eJ3 => ?_)
    have hyp := hyp J3 eJ3
    exact cr_weak [true] hyp
  refine cr_icmp_ge h (tgt := 66) (by decide) dX9_token_59 (fun c3 => ?_) (fun c3 => ?_)
  · refine cr_iconst h (v := (0 : Int32)) (by decide) dX9_token_66 ?_
    exact cr_ite (by rw [if_pos c3]) J4
  · refine cr_iconst h (v := (1 : Int32)) (by decide) dX9_token_62 ?_
    refine cr_goto h (tgt := 67) (by decide) dX9_token_63 ?_
    exact cr_ite (by rw [if_neg c3]) J4
theorem bk_yX9_token_71 {Γ : cr_G} {K : cr_K} {τ : Nat → Nat} {I : cr_I}  (hτ : cr_tau τ)  (h : cr_Ok yX9_token cX9_token 1 none (cr_rm0 1 20) K 247 247 Γ) (hyp : ((I 200 5) ≤ (I 200 44) → cr_V Γ 137 [.ref 200] [] I (cr_rf τ) 247) ∧ (¬ (I 200 5) ≤ (I 200 44) → ((0 ≤ (I 200 45).toInt ∧ (I 200 45).toInt < 160) ∧ ((f_yX9_sort τ (I 205 (I 200 45).toNatClampNeg) I) ≤ 0 → cr_V Γ 137 [.ref 200] [] I (cr_rf τ) 247) ∧ (¬ (f_yX9_sort τ (I 205 (I 200 45).toNatClampNeg) I) ≤ 0 → ((0 ≤ (I 200 44).toInt ∧ (I 200 44).toInt < 160) ∧ (0 ≤ (I 200 45).toInt ∧ (I 200 45).toInt < 160) ∧ (¬ (f_yX9_sort τ (I 205 (I 200 44).toNatClampNeg) I) = (f_yX9_sort τ (I 205 (I 200 45).toNatClampNeg) I) → cr_V Γ 137 [.ref 200] [] I (cr_rf τ) 247) ∧ ((f_yX9_sort τ (I 205 (I 200 44).toNatClampNeg) I) = (f_yX9_sort τ (I 205 (I 200 45).toNatClampNeg) I) → (∀ J5 : cr_I, J5 = cr_up I 200 44 ((I 200 44) + (1 : Int32)) → cr_V Γ 71 [.ref 200] [] J5 (cr_rf τ) 247))))))) : cr_V Γ 71 [.ref 200] [] I (cr_rf τ) 247 := by
  refine cr_aload_n h (j := 0) rfl rfl dX9_token_71 ?_
  refine cr_getI h (k := 44) cr_clsX9 (by decide) rfl rfl wf_X9_175 (by decide) rfl dX9_token_72 ?_
  refine cr_aload_n h (j := 0) rfl rfl dX9_token_75 ?_
  refine cr_getI h (k := 5) cr_clsX9 (by decide) rfl rfl wf_X9_170 (by decide) rfl dX9_token_76 ?_
  refine cr_icmp_ge h (tgt := 137) (by decide) dX9_token_79 (fun c4 => ?_) (fun c4 => ?_)
  · have hyp := hyp.1 c4
    exact cr_weak [true] hyp
  · have hyp := hyp.2 c4
    refine cr_aload_n h (j := 0) rfl rfl dX9_token_82 ?_
    refine cr_getR h (k := 4) cr_clsX9 (by decide) rfl rfl wf_X9_22 (by decide) rfl rfl dX9_token_83 ?_
    refine cr_aload_n h (j := 0) rfl rfl dX9_token_86 ?_
    refine cr_getI h (k := 45) cr_clsX9 (by decide) rfl rfl wf_X9_178 (by decide) rfl dX9_token_87 ?_
    refine cs_ild h (by decide) rfl hyp.1 (q := (I 200 45).toNatClampNeg) rfl dX9_token_90 ?_
    have hyp := hyp.2
    refine cr_callS h C_yX9_sort cZ_yX9_sort wm_X9_181 ws_yX9_sort (cr_rmS (by decide) (by decide)) (As := [.int (I 205 (I 200 45).toNatClampNeg)]) rfl (Nat.le_of_ble_eq_true rfl) dX9_token_91 ⟨τ, (I 205 (I 200 45).toNatClampNeg), rfl, hτ, rfl, ?_⟩
    show cr_V Γ 94 [.ref 200] [.int (f_yX9_sort τ (I 205 (I 200 45).toNatClampNeg) I)] I (cr_rf τ) 247
    refine cr_if_le h (tgt := 137) (by decide) dX9_token_94 (fun c5 => ?_) (fun c5 => ?_)
    · have hyp := hyp.1 c5
      exact cr_weak [true] hyp
    · have hyp := hyp.2 c5
      refine cr_aload_n h (j := 0) rfl rfl dX9_token_97 ?_
      refine cr_getR h (k := 4) cr_clsX9 (by decide) rfl rfl wf_X9_22 (by decide) rfl rfl dX9_token_98 ?_
      refine cr_aload_n h (j := 0) rfl rfl dX9_token_101 ?_
      refine cr_getI h (k := 44) cr_clsX9 (by decide) rfl rfl wf_X9_175 (by decide) rfl dX9_token_102 ?_
      refine cs_ild h (by decide) rfl hyp.1 (q := (I 200 44).toNatClampNeg) rfl dX9_token_105 ?_
      have hyp := hyp.2
      refine cr_callS h C_yX9_sort cZ_yX9_sort wm_X9_181 ws_yX9_sort (cr_rmS (by decide) (by decide)) (As := [.int (I 205 (I 200 44).toNatClampNeg)]) rfl (Nat.le_of_ble_eq_true rfl) dX9_token_106 ⟨τ, (I 205 (I 200 44).toNatClampNeg), rfl, hτ, rfl, ?_⟩
      show cr_V Γ 109 [.ref 200] [.int (f_yX9_sort τ (I 205 (I 200 44).toNatClampNeg) I)] I (cr_rf τ) 247
      refine cr_aload_n h (j := 0) rfl rfl dX9_token_109 ?_
      refine cr_getR h (k := 4) cr_clsX9 (by decide) rfl rfl wf_X9_22 (by decide) rfl rfl dX9_token_110 ?_
      refine cr_aload_n h (j := 0) rfl rfl dX9_token_113 ?_
      refine cr_getI h (k := 45) cr_clsX9 (by decide) rfl rfl wf_X9_178 (by decide) rfl dX9_token_114 ?_
      refine cs_ild h (by decide) rfl hyp.1 (q := (I 200 45).toNatClampNeg) rfl dX9_token_117 ?_
      have hyp := hyp.2
      refine cr_callS h C_yX9_sort cZ_yX9_sort wm_X9_181 ws_yX9_sort (cr_rmS (by decide) (by decide)) (As := [.int (I 205 (I 200 45).toNatClampNeg)]) rfl (Nat.le_of_ble_eq_true rfl) dX9_token_118 ⟨τ, (I 205 (I 200 45).toNatClampNeg), rfl, hτ, rfl, ?_⟩
      show cr_V Γ 121 [.ref 200] [.int (f_yX9_sort τ (I 205 (I 200 45).toNatClampNeg) I), .int (f_yX9_sort τ (I 205 (I 200 44).toNatClampNeg) I)] I (cr_rf τ) 247
      refine cr_icmp_ne h (tgt := 137) (by decide) dX9_token_121 (fun c6 => ?_) (fun c6 => ?_)
      · have hyp := hyp.1 c6
        exact cr_weak [true] hyp
      · have hyp := hyp.2 c6
        refine cr_aload_n h (j := 0) rfl rfl dX9_token_124 ?_
        refine cr_dup h rfl dX9_token_125 ?_
        refine cr_getI h (k := 44) cr_clsX9 (by decide) rfl rfl wf_X9_175 (by decide) rfl dX9_token_126 ?_
        refine cr_iconst h (v := (1 : Int32)) (by decide) dX9_token_129 ?_
        refine cr_iadd h dX9_token_130 ?_
        refine cs_put h (k := 44) cr_clsX9 (by decide) rfl rfl rfl rfl wf_X9_175 (by decide) (by decide) rfl dX9_token_131 (fun J5 eJ5 => ?_)
        have hyp := hyp J5 eJ5
        refine cr_goto h (tgt := 71) (by decide) dX9_token_134 ?_
        exact cr_weak [true] hyp
theorem bk_yX9_token_137 {Γ : cr_G} {K : cr_K} {τ : Nat → Nat} {I : cr_I}  (hτ : cr_tau τ)  (h : cr_Ok yX9_token cX9_token 1 none (cr_rm0 1 20) K 247 247 Γ) (hyp : ∀ J6 : cr_I, J6 = cr_up I 200 46 (I 200 44) → K none J6 (cr_rf τ)) : cr_V Γ 137 [.ref 200] [] I (cr_rf τ) 247 := by
  refine cr_aload_n h (j := 0) rfl rfl dX9_token_137 ?_
  refine cr_aload_n h (j := 0) rfl rfl dX9_token_138 ?_
  refine cr_getI h (k := 44) cr_clsX9 (by decide) rfl rfl wf_X9_175 (by decide) rfl dX9_token_139 ?_
  refine cs_put h (k := 46) cr_clsX9 (by decide) rfl rfl rfl rfl wf_X9_185 (by decide) (by decide) rfl dX9_token_142 (fun J6 eJ6 => ?_)
  have hyp := hyp J6 eJ6
  refine cr_vret h rfl rfl dX9_token_145 ?_
  exact hyp
abbrev T_yX9_token : cr_T := fun vs I R K => ∃ (τ : Nat → Nat), R = cr_rf τ ∧ cr_tau τ ∧ vs = [.ref 200] ∧ p_yX9_token τ I ∧ ∀ J, q_yX9_token τ I J → K none J (cr_rf τ)
abbrev S_yX9_token : Prop := cr_C yX9_token cX9_token 1 none (cr_rm0 1 20) 247 247 T_yX9_token
theorem G_yX9_token (H : ∀ (Γ : cr_G) (K : cr_K) (τ : Nat → Nat) (I : cr_I), cr_tau τ → cr_Ok yX9_token cX9_token 1 none (cr_rm0 1 20) K 247 247 Γ → p_yX9_token τ I → (∀ J, q_yX9_token τ I J → K none J (cr_rf τ)) → cr_V Γ 0 [.ref 200] [] I (cr_rf τ) 247) : cr_C yX9_token cX9_token 1 none (cr_rm0 1 20) 247 247 T_yX9_token := by
  refine cr_C.of (by decide +kernel) (fun vs I R K hT => ?_) (fun Γ K h vs I R hT => ?_)
  · obtain ⟨τ, rfl, hτ, rfl, hp, hK⟩ := hT
    exact Nat.le_of_ble_eq_true rfl
  · obtain ⟨τ, rfl, hτ, rfl, hp, hK⟩ := hT
    exact H Γ K τ I hτ h hp hK
theorem C_yX9_token : S_yX9_token := G_yX9_token (by
  intro Γ K τ I hτ h hp hK
  obtain ⟨hL, h40, h41⟩ := hp
  obtain ⟨eL, hLN⟩ := cr_ofI (B := 160) hL.1 hL.2
  obtain ⟨eE, hE⟩ := cr_ofI (B := 160) h40 (by have := hL.2; omega)
  have heL : (I 200 44).toNatClampNeg ≤ (I 200 5).toNatClampNeg := by show (I 200 44).toInt.toNat ≤ (I 200 5).toInt.toNat; omega
  have hK' : ∀ J, cr_f3 I J → cr_mt J (cr_nx (I 205) (I 200 5).toNatClampNeg (0, (I 200 44).toNatClampNeg)) → K none J (cr_rf τ) := fun J a b => hK J ⟨a, b⟩
  have hnx : cr_nx (I 205) (I 200 5).toNatClampNeg (0, (I 200 44).toNatClampNeg) = (cr_sk (I 205) (I 200 5).toNatClampNeg (I 200 44).toNatClampNeg, cr_te (I 205) (I 200 5).toNatClampNeg (cr_sk (I 205) (I 200 5).toNatClampNeg (I 200 44).toNatClampNeg)) := rfl
  rw [hnx] at hK'
  have hs3 := cr_sk_le (B := I 205) heL
  have hLe : cr_mL I = (I 200 5).toNatClampNeg := rfl
  generalize (I 200 5).toNatClampNeg = L at *
  generalize hSe : cr_sk (I 205) L (I 200 44).toNatClampNeg = S at *
  have hte := cr_te_le (B := I 205) hs3.2
  have fin : ∀ (J : cr_I) (p : Nat), cr_f3 I J → J 200 44 = nI p → J 200 45 = nI S → p = cr_te (I 205) L S → cr_V Γ 137 [.ref 200] [] J (cr_rf τ) 247 := by
    intro J p hf e44 e45 ep
    refine bk_yX9_token_137 hτ h ?_
    rw [e44]
    rintro J8 rfl
    have hf' := hf.up (k := 46) (v := nI p) (by omega)
    refine hK' _ hf' ⟨?_, ⟨?_, ?_, ?_⟩, ?_⟩
    · rw [hf'.L.1, hf'.L.2.2.1, hLe]; exact ⟨eL, hLN⟩
    · rw [cr_up_k (by decide), e44, ep]
    · rw [cr_up_k (by decide), e45]
    · rw [cr_up_s, ep]
    · rw [hf'.L.1, hLe]
      exact hte
  have key2 : ∀ m p (J : cr_I), L - p = m → S < p → p ≤ L → S < L → cr_f3 I J → J 200 44 = nI p → J 200 45 = nI S → (cr_kdS (I 205 S) = 2 → p = S + 1) → (cr_kdS (I 205 S) ≠ 2 → cr_run (I 205) L (cr_kdS (I 205 S)) p = cr_te (I 205) L S) → cr_V Γ 71 [.ref 200] [] J (cr_rf τ) 247 := by
    intro m
    induction m with
    | zero =>
      intro p J hm h1 h2 h3 hf e44 e45 h4 h5
      refine bk_yX9_token_71 hτ h ⟨fun _ => ?_, fun d => absurd ?_ d⟩
      · refine fin J p hf e44 e45 ?_
        by_cases c : cr_kdS (I 205 S) = 2
        · rw [cr_te_sign h3 c]; exact h4 c
        · have h6 := h5 c
          rw [cr_run_n (by omega)] at h6
          exact h6
      · rw [hf.L.2.2.1, e44, eL, cr_nlq (by omega) (by omega)]
        omega
    | succ m ih =>
      intro p J hm h1 h2 h3 hf e44 e45 h4 h5
      refine bk_yX9_token_71 hτ h ?_
      rw [hf.L.2.2.1, e44, e45, hf.L.2.1, eL, cr_nlq (by omega) (by omega), cr_nc (show S < 100000 by omega), cr_nc (show p < 100000 by omega), cr_srt_le, cr_srt_eq]
      have hxS : (0 : Int) ≤ (nI S).toInt ∧ (nI S).toInt < 160 := cr_ix (by omega) (by omega)
      have hxp : (0 : Int) ≤ (nI p).toInt ∧ (nI p).toInt < 160 := cr_ix (by omega) (by omega)
      refine ⟨fun d => by omega, fun _ => ⟨hxS, fun c => ?_, fun c => ⟨hxp, hxS, fun d => ?_, fun d => ?_⟩⟩⟩
      · exact fin J p hf e44 e45 (by rw [cr_te_sign h3 c]; exact h4 c)
      · have h6 := h5 c
        rw [cr_run_n (fun q => d q.2)] at h6
        exact fin J p hf e44 e45 h6
      · rintro J' rfl
        rw [nI_1]
        refine ih (p + 1) _ (by omega) (by omega) (by omega) h3 (hf.up (by omega)) cr_up_s ?_ (fun q => absurd q c) (fun q => ?_)
        · rw [cr_up_k (by decide), e45]
        · rw [← cr_run_y (by omega) d]
          exact h5 q
  have key1 : ∀ m p (J : cr_I), L - p = m → p ≤ L → cr_sk (I 205) L p = S → cr_f3 I J → J 200 44 = nI p → cr_V Γ 0 [.ref 200] [] J (cr_rf τ) 247 := by
    have fin1 : ∀ (J : cr_I) p, p ≤ L → p = S → cr_f3 I J → J 200 44 = nI p → cr_V Γ 38 [.ref 200] [] J (cr_rf τ) 247 := by
      rintro J p h1 rfl hf e44
      refine bk_yX9_token_38 hτ h ?_
      rw [e44]
      rintro J1 rfl
      have e1 : cr_up J 200 45 (nI p) 200 44 = nI p := by rw [cr_up_k (by decide), e44]
      have e2 : cr_up J 200 45 (nI p) 200 5 = nI L := by rw [cr_up_k (by decide), hf.L.2.2.1, eL]
      rw [e1, e2]
      have eif : (if nI L ≤ nI p then (0 : Int32) else 1) = if p < L then 1 else 0 := by
        by_cases q : p < L
        · rw [if_pos q, if_neg (cr_nle q (by omega))]
        · rw [if_neg q, if_pos ((cr_nlq (by omega) (by omega)).mpr (by omega))]
      rw [eif]
      rintro J2 rfl
      have hf2 : cr_f3 I (cr_up (cr_up J 200 45 (nI p)) 200 44 (nI p + if p < L then 1 else 0)) := (hf.up (k := 45) (by omega)).up (by omega)
      by_cases q : p < L
      · rw [if_pos q, nI_1]
        rw [if_pos q, nI_1] at hf2
        refine key2 (L - (p + 1)) (p + 1) _ rfl (by omega) (by omega) q hf2 cr_up_s (by rw [cr_up_k (by decide), cr_up_s]) (fun _ => rfl) (fun c => ?_)
        unfold cr_te
        rw [if_pos q, if_neg c]
      · rw [if_neg q, Int32.add_zero]
        rw [if_neg q, Int32.add_zero] at hf2
        refine bk_yX9_token_71 hτ h ⟨fun _ => ?_, fun d => absurd ?_ d⟩
        · exact fin _ p hf2 cr_up_s (by rw [cr_up_k (by decide), cr_up_s]) (by unfold cr_te; rw [if_neg q])
        · rw [hf2.L.2.2.1, cr_up_s, eL, cr_nlq (by omega) (by omega)]
          omega
    intro m
    induction m with
    | zero =>
      intro p J hm h1 h2 hf e44
      refine bk_yX9_token_0 hτ h ⟨fun _ => ?_, fun c => absurd ?_ c⟩
      · exact fin1 J p h1 (by rw [← h2, cr_sk_n (by omega)]) hf e44
      · rw [hf.L.2.2.1, e44, eL, cr_nlq (by omega) (by omega)]
        omega
    | succ m ih =>
      intro p J hm h1 h2 hf e44
      refine bk_yX9_token_0 hτ h ?_
      rw [hf.L.2.2.1, e44, hf.L.2.1, eL, cr_nlq (by omega) (by omega), cr_nc (show p < 100000 by omega)]
      refine ⟨fun d => by omega, fun _ => ⟨cr_ix (by omega) (by omega), fun c => ?_, fun c => ?_⟩⟩
      · exact fin1 J p h1 (by rw [← h2, cr_sk_n (fun q => c q.2)]) hf e44
      · rintro J' rfl
        rw [nI_1]
        exact ih (p + 1) _ (by omega) (by omega) (by rw [← cr_sk_y (by omega) c]; exact h2) (hf.up (by omega)) cr_up_s
  exact key1 _ _ I rfl heL hSe (fun _ _ _ => rfl) eE)
/-- a token from such a state -/
theorem cr_mt.adv {τ : Nat → Nat} {I : cr_I} {t : cr_tk} (h : cr_mt I t) : p_yX9_token τ I ∧ ∀ J, q_yX9_token τ I J → cr_f3 I J ∧ cr_mt J (cr_nx (I 205) (cr_mL I) t) := by
  obtain ⟨⟨eL, hL⟩, ⟨e44, e45, e46⟩, ht1, ht2⟩ := h
  refine ⟨⟨?_, ?_⟩, fun J hJ => ⟨hJ.1, ?_⟩⟩
  · rw [eL, cr_nt (by omega)]; omega
  · rw [eL, e44, cr_nt (by omega), cr_nt (by omega)]; omega
  · have := hJ.2
    rw [e44, cr_nc (by omega)] at this
    exact this
/-! words -/
def cr_wlc (W : Int64) (k : Nat) : Int32 := 96 + ((W >>> (((5 : Int32) * nI k).toInt64 &&& 63)) &&& (31 : Int64)).toInt32
def cr_eqL (B : Nat → Int32) (s : Nat) (W : Int64) : Nat → Bool
  | 0 => true
  | k + 1 => cr_eqL B s W k && decide (B (s + k) = cr_wlc W k)
def cr_isWL (B : Nat → Int32) (t : cr_tk) (W : Int64) (n : Nat) : Bool := decide (t.2 = t.1 + n) && cr_eqL B t.1 W n
theorem cr_eqL_eq {B : Nat → Int32} {s w : Nat} {W : Int64} : ∀ n, (∀ k, k < n → cr_wlc W k = cr_txc w k) → cr_eqL B s W n = cr_eqF B s w n
  | 0, _ => rfl
  | n + 1, h => by rw [cr_eqL, cr_eqF, cr_eqL_eq n (fun k hk => h k (by omega)), h n (by omega)]
theorem cr_isWL_eq {B : Nat → Int32} {t : cr_tk} {w n : Nat} {W : Int64} (hn : n = cr_txL.getD w 0) (h : ∀ k, k < n → cr_wlc W k = cr_txc w k) : cr_isWL B t W n = cr_isW B t w := by
  unfold cr_isWL cr_isW
  rw [cr_eqL_eq n h, hn]
theorem cr_eqL_f {B : Nat → Int32} {s k : Nat} {W : Int64} (h : ¬ B (s + k) = cr_wlc W k) : ∀ n, k < n → cr_eqL B s W n = false
  | 0, hk => absurd hk (Nat.not_lt_zero _)
  | n + 1, hk => by
    rw [cr_eqL]
    by_cases e : k = n
    · subst e
      rw [decide_eq_false h, Bool.and_false]
    · rw [cr_eqL_f h n (by omega), Bool.false_and]
def cr_mtk (I : cr_I) : cr_tk := ((I 200 45).toNatClampNeg, (I 200 46).toNatClampNeg)
def f_yX9_isWord (τ : Nat → Nat) (x1 : Int64) (x3 : Int32) (I : cr_I) : Int32 := if cr_isWL (I 205) (cr_mtk I) x1 x3.toNatClampNeg = true then 1 else 0
def p_yX9_isWord (τ : Nat → Nat) (x1 : Int64) (x3 : Int32) (I : cr_I) : Prop := (0 ≤ x3.toInt ∧ x3.toInt ≤ 7) ∧ ((0 ≤ (I 200 45).toInt ∧ (I 200 45).toInt ≤ (I 200 46).toInt) ∧ (I 200 46).toInt ≤ 160)
theorem nb_yX9_isWord {τ : Nat → Nat} {x1 : Int64} {x3 : Int32} {I : cr_I} : narrow .boolean (.int (f_yX9_isWord τ x1 x3 I)) = .int (f_yX9_isWord τ x1 x3 I) := by
  unfold f_yX9_isWord
  split <;> rfl
theorem bk_yX9_isWord_0 {Γ : cr_G} {K : cr_K} {τ : Nat → Nat} {I : cr_I} {x1 : Int64} {x3 : Int32} (hτ : cr_tau τ)  (h : cr_Ok yX9_isWord cX9_isWord 6 (some .boolean) (cr_rm0 0 0) K 247 247 Γ) (hyp : ∀ v1 : Int32, v1 = (if ((I 200 46) - (I 200 45)) = x3 then (1 : Int32) else (0 : Int32)) → cr_V Γ 23 [.ref 200, .long x1, .null, .int x3, .int v1, .int (0 : Int32)] [] I (cr_rf τ) 247) : cr_V Γ 0 [.ref 200, .long x1, .null, .int x3, .null, .null] [] I (cr_rf τ) 247 := by
  refine cr_aload_n h (j := 0) rfl rfl dX9_isWord_0 ?_
  refine cr_getI h (k := 46) cr_clsX9 (by decide) rfl rfl wf_X9_185 (by decide) rfl dX9_isWord_1 ?_
  refine cr_aload_n h (j := 0) rfl rfl dX9_isWord_4 ?_
  refine cr_getI h (k := 45) cr_clsX9 (by decide) rfl rfl wf_X9_178 (by decide) rfl dX9_isWord_5 ?_
  refine cr_isub h dX9_isWord_8 ?_
  refine cr_iload_n h (j := 3) rfl rfl dX9_isWord_9 ?_
  have J1 : cr_V Γ 18 [.ref 200, .long x1, .null, .int x3, .null, .null] [.int (if ((I 200 46) - (I 200 45)) = x3 then (1 : Int32) else (0 : Int32))] I (cr_rf τ) 247 := by
    refine cs_i h 4 (by decide) rfl dX9_isWord_18 (fun v1 ev1 => ?_)
    have hyp := hyp v1 ev1
    show cr_V Γ 20 [.ref 200, .long x1, .null, .int x3, .int v1, .null] [] I (cr_rf τ) 247
    refine cr_iconst h (v := (0 : Int32)) (by decide) dX9_isWord_20 ?_
    refine cr_istore h (by decide) rfl dX9_isWord_21 ?_
    show cr_V Γ 23 [.ref 200, .long x1, .null, .int x3, .int v1, .int (0 : Int32)] [] I (cr_rf τ) 247
    exact cr_weak [true, true, false, true, true, true] hyp
  refine cr_icmp_ne h (tgt := 17) (by decide) dX9_isWord_10 (fun c1 => ?_) (fun c1 => ?_)
  · refine cr_iconst h (v := (0 : Int32)) (by decide) dX9_isWord_17 ?_
    exact cr_ite (by rw [if_neg c1]) J1
  · refine cr_iconst h (v := (1 : Int32)) (by decide) dX9_isWord_13 ?_
    refine cr_goto h (tgt := 18) (by decide) dX9_isWord_14 ?_
    exact cr_ite (by rw [if_pos c1]) J1
theorem bk_yX9_isWord_23 {Γ : cr_G} {K : cr_K} {τ : Nat → Nat} {I : cr_I} {x1 : Int64} {x3 : Int32} {x4 : Int32} {x5 : Int32} (hτ : cr_tau τ)  (h : cr_Ok yX9_isWord cX9_isWord 6 (some .boolean) (cr_rm0 0 0) K 247 247 Γ) (hyp : (x4 = 0 → ((x4 = 0 ∨ x4 = 1) ∧ K (some (.int x4)) I (cr_rf τ))) ∧ (¬ x4 = 0 → ((x3 ≤ x5 → ((x4 = 0 ∨ x4 = 1) ∧ K (some (.int x4)) I (cr_rf τ))) ∧ (¬ x3 ≤ x5 → ((0 ≤ ((I 200 45) + x5).toInt ∧ ((I 200 45) + x5).toInt < 160) ∧ (∀ v2 : Int32, v2 = (if (I 205 ((I 200 45) + x5).toNatClampNeg) = ((96 : Int32) + ((x1 >>> (((5 : Int32) * x5).toInt64 &&& 63)) &&& (31 : Int64)).toInt32) then (1 : Int32) else (0 : Int32)) → (∀ v3 : Int32, v3 = x5 + (1 : Int32) → cr_V Γ 23 [.ref 200, .long x1, .null, .int x3, .int v2, .int v3] [] I (cr_rf τ) 247))))))) : cr_V Γ 23 [.ref 200, .long x1, .null, .int x3, .int x4, .int x5] [] I (cr_rf τ) 247 := by
  refine cr_iload h rfl dX9_isWord_23 ?_
  refine cr_if_eq h (tgt := 76) (by decide) dX9_isWord_25 (fun c2 => ?_) (fun c2 => ?_)
  · have hyp := hyp.1 c2
    refine cr_iload h rfl dX9_isWord_76 ?_
    refine cr_iret h rfl (nb_of hyp.1) rfl dX9_isWord_78 ?_
    have hyp := hyp.2
    exact hyp
  · have hyp := hyp.2 c2
    refine cr_iload h rfl dX9_isWord_28 ?_
    refine cr_iload_n h (j := 3) rfl rfl dX9_isWord_30 ?_
    refine cr_icmp_ge h (tgt := 76) (by decide) dX9_isWord_31 (fun c3 => ?_) (fun c3 => ?_)
    · have hyp := hyp.1 c3
      refine cr_iload h rfl dX9_isWord_76 ?_
      refine cr_iret h rfl (nb_of hyp.1) rfl dX9_isWord_78 ?_
      have hyp := hyp.2
      exact hyp
    · have hyp := hyp.2 c3
      refine cr_aload_n h (j := 0) rfl rfl dX9_isWord_34 ?_
      refine cr_getR h (k := 4) cr_clsX9 (by decide) rfl rfl wf_X9_22 (by decide) rfl rfl dX9_isWord_35 ?_
      refine cr_aload_n h (j := 0) rfl rfl dX9_isWord_38 ?_
      refine cr_getI h (k := 45) cr_clsX9 (by decide) rfl rfl wf_X9_178 (by decide) rfl dX9_isWord_39 ?_
      refine cr_iload h rfl dX9_isWord_42 ?_
      refine cr_iadd h dX9_isWord_44 ?_
      refine cs_ild h (by decide) rfl hyp.1 (q := ((I 200 45) + x5).toNatClampNeg) rfl dX9_isWord_45 ?_
      have hyp := hyp.2
      refine cr_bipush h (v := (96 : Int32)) (by decide) dX9_isWord_46 ?_
      refine cr_lload_n h (j := 1) rfl rfl dX9_isWord_48 ?_
      refine cr_iconst h (v := (5 : Int32)) (by decide) dX9_isWord_49 ?_
      refine cr_iload h rfl dX9_isWord_50 ?_
      refine cr_imul h dX9_isWord_52 ?_
      refine cr_lshr h dX9_isWord_53 ?_
      refine cr_ldc2 h wc_X9_188 dX9_isWord_54 ?_
      refine cr_land h dX9_isWord_57 ?_
      refine cr_l2i h dX9_isWord_58 ?_
      refine cr_iadd h dX9_isWord_59 ?_
      have J2 : cr_V Γ 68 [.ref 200, .long x1, .null, .int x3, .int x4, .int x5] [.int (if (I 205 ((I 200 45) + x5).toNatClampNeg) = ((96 : Int32) + ((x1 >>> (((5 : Int32) * x5).toInt64 &&& 63)) &&& (31 : Int64)).toInt32) then (1 : Int32) else (0 : Int32))] I (cr_rf τ) 247 := by
        refine cs_i h 4 (by decide) rfl dX9_isWord_68 (fun v2 ev2 => ?_)
        have hyp := hyp v2 ev2
        show cr_V Γ 70 [.ref 200, .long x1, .null, .int x3, .int v2, .int x5] [] I (cr_rf τ) 247
        refine cs_inc h (v := (1 : Int32)) 5 rfl (by decide) (by decide) rfl dX9_isWord_70 (fun v3 ev3 => ?_)
        have hyp := hyp v3 ev3
        show cr_V Γ 73 [.ref 200, .long x1, .null, .int x3, .int v2, .int v3] [] I (cr_rf τ) 247
        refine cr_goto h (tgt := 23) (by decide) dX9_isWord_73 ?_
        exact cr_weak [true, true, false, true, true, true] hyp
      refine cr_icmp_ne h (tgt := 67) (by decide) dX9_isWord_60 (fun c4 => ?_) (fun c4 => ?_)
      · refine cr_iconst h (v := (0 : Int32)) (by decide) dX9_isWord_67 ?_
        exact cr_ite (by rw [if_neg c4]) J2
      · refine cr_iconst h (v := (1 : Int32)) (by decide) dX9_isWord_63 ?_
        refine cr_goto h (tgt := 68) (by decide) dX9_isWord_64 ?_
        exact cr_ite (by rw [if_pos c4]) J2
abbrev T_yX9_isWord : cr_T := fun vs I R K => ∃ (τ : Nat → Nat) (x1 : Int64) (x3 : Int32), R = cr_rf τ ∧ cr_tau τ ∧ vs = [.ref 200, .long x1, .int x3] ∧ p_yX9_isWord τ x1 x3 I ∧ K (some (.int (f_yX9_isWord τ x1 x3 I))) I (cr_rf τ)
abbrev S_yX9_isWord : Prop := cr_C yX9_isWord cX9_isWord 6 (some .boolean) (cr_rm0 0 0) 247 247 T_yX9_isWord
theorem G_yX9_isWord (H : ∀ (Γ : cr_G) (K : cr_K) (τ : Nat → Nat) (x1 : Int64) (x3 : Int32) (I : cr_I), cr_tau τ → cr_Ok yX9_isWord cX9_isWord 6 (some .boolean) (cr_rm0 0 0) K 247 247 Γ → p_yX9_isWord τ x1 x3 I → K (some (.int (f_yX9_isWord τ x1 x3 I))) I (cr_rf τ) → cr_V Γ 0 [.ref 200, .long x1, .null, .int x3, .null, .null] [] I (cr_rf τ) 247) : cr_C yX9_isWord cX9_isWord 6 (some .boolean) (cr_rm0 0 0) 247 247 T_yX9_isWord := by
  refine cr_C.of (by decide +kernel) (fun vs I R K hT => ?_) (fun Γ K h vs I R hT => ?_)
  · obtain ⟨τ, x1, x3, rfl, hτ, rfl, hp, hK⟩ := hT
    exact Nat.le_of_ble_eq_true rfl
  · obtain ⟨τ, x1, x3, rfl, hτ, rfl, hp, hK⟩ := hT
    exact H Γ K τ x1 x3 I hτ h hp hK
theorem C_yX9_isWord : S_yX9_isWord := G_yX9_isWord (by
  intro Γ K τ x1 x3 I hτ h hp hK
  obtain ⟨⟨hn0, hn1⟩, ⟨h45, h456⟩, h46⟩ := hp
  obtain ⟨eN, hN⟩ := cr_ofI (B := 7) hn0 hn1
  obtain ⟨e45, -⟩ := cr_ofI (B := 160) h45 (by omega)
  obtain ⟨e46, hE⟩ := cr_ofI (B := 160) (x := I 200 46) (by omega) h46
  have hle : (I 200 45).toNatClampNeg ≤ (I 200 46).toNatClampNeg := by show (I 200 45).toInt.toNat ≤ (I 200 46).toInt.toNat; omega
  unfold f_yX9_isWord cr_mtk at hK
  generalize x3.toNatClampNeg = n at *
  generalize (I 200 45).toNatClampNeg = s at *
  generalize (I 200 46).toNatClampNeg = e at *
  have esub : I 200 46 - I 200 45 = nI (e - s) := by
    rw [e45, e46]
    apply Int32.toInt_inj.mp
    rw [cr_sub (by rw [cr_nt (by omega), cr_nt (by omega)]; omega), cr_nt (by omega), cr_nt (by omega), cr_nt (by omega)]
    omega
  refine bk_yX9_isWord_0 hτ h ?_
  rw [esub, eN]
  rintro v rfl
  have eif : (if nI (e - s) = nI n then (1 : Int32) else 0) = if e = s + n then 1 else 0 := by
    by_cases q : e = s + n
    · rw [if_pos q, if_pos ((cr_neq (by omega) (by omega)).mpr (by omega))]
    · rw [if_neg q, if_neg (fun z => q (by have := (cr_neq (by omega) (by omega)).mp z; omega))]
  rw [eif]
  have stop : K (some (.int 0)) I (cr_rf τ) → ∀ x5, cr_V Γ 23 [.ref 200, .long x1, .null, .int (nI n), .int 0, .int x5] [] I (cr_rf τ) 247 := fun hk x5 => bk_yX9_isWord_23 hτ h ⟨fun _ => ⟨Or.inl rfl, hk⟩, fun c => absurd rfl c⟩
  by_cases q : e = s + n
  · have hd : cr_isWL (I 205) (s, e) x1 n = cr_eqL (I 205) s x1 n := by
      unfold cr_isWL
      rw [decide_eq_true (by simp only; omega), Bool.true_and]
    rw [hd] at hK
    rw [if_pos q]
    refine cr_loop (fun k => cr_eqL (I 205) s x1 k = true → cr_V Γ 23 [.ref 200, .long x1, .null, .int (nI n), .int 1, .int (nI k)] [] I (cr_rf τ) 247) n ?_ ?_ 0 (Nat.zero_le _) rfl
    · intro he
      refine bk_yX9_isWord_23 hτ h ⟨fun c => absurd c (by decide), fun _ => ⟨fun _ => ⟨Or.inr rfl, ?_⟩, fun c => absurd (Int32.le_refl _) c⟩⟩
      rw [if_pos he] at hK
      exact hK
    · intro k hk ih he
      refine bk_yX9_isWord_23 hτ h ⟨fun c => absurd c (by decide), fun _ => ⟨fun c => absurd c (cr_nle hk (by omega)), fun _ => ?_⟩⟩
      rw [e45, nI_add, cr_nc (show s + k < 100000 by omega)]
      refine ⟨cr_ix (by omega) (by omega), ?_⟩
      rintro v rfl w rfl
      rw [nI_1]
      rw [show (96 : Int32) + ((x1 >>> (((5 : Int32) * nI k).toInt64 &&& 63)) &&& (31 : Int64)).toInt32 = cr_wlc x1 k from rfl]
      by_cases c : I 205 (s + k) = cr_wlc x1 k
      · rw [if_pos c]
        exact ih (by rw [cr_eqL, he, decide_eq_true c]; rfl)
      · rw [if_neg c]
        rw [cr_eqL_f c _ hk] at hK
        exact stop hK _
  · have hd : cr_isWL (I 205) (s, e) x1 n = false := by
      unfold cr_isWL
      rw [decide_eq_false (by simp only; omega), Bool.false_and]
    rw [hd] at hK
    rw [if_neg q]
    exact stop hK _)
/-- each of the reference's words, in a state -/
theorem cr_mt.w {τ : Nat → Nat} {I : cr_I} {t : cr_tk} (h : cr_mt I t) (w : Nat) {W : Int64} {n : Int32} (hn : n.toNatClampNeg = cr_txL.getD w 0) (hn7 : 0 ≤ n.toInt ∧ n.toInt ≤ 7) (hc : ∀ k, k < n.toNatClampNeg → cr_wlc W k = cr_txc w k) : p_yX9_isWord τ W n I ∧ f_yX9_isWord τ W n I = if cr_isW (I 205) t w = true then 1 else 0 := by
  obtain ⟨⟨eL, hL⟩, ⟨e44, e45, e46⟩, ht1, ht2⟩ := h
  refine ⟨⟨hn7, ?_, ?_⟩, ?_⟩
  · rw [e45, e46, cr_nt (by omega), cr_nt (by omega)]; omega
  · rw [e46, cr_nt (by omega)]; omega
  · unfold f_yX9_isWord cr_mtk
    rw [e45, e46, cr_nc (by omega), cr_nc (by omega), cr_isWL_eq hn hc]
