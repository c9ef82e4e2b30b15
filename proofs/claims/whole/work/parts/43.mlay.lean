/-! the reference's memory and the run -/
def cr_mv (p : cr_par) (g : Int32) (dl : Nat) (lost : Int32) (t : Nat) (J : cr_I) : Prop := (∀ i, i < pn p → J 240 i = rS (cr_rs p g dl lost t) i ∧ (1 ≤ i → J 241 i = rG (cr_rs p g dl lost t) i) ∧ J 242 i = rP (cr_rs p g dl lost t) i) ∧ (∀ i u, i < pn p → u < t → J 236 (6 * u + i) = cr_Wt p dl lost u (cr_rs p g dl lost u) i ∧ J 233 (6 * u + i) = rS (cr_rs p g dl lost (u + 1)) i ∧ (1 ≤ i → J 234 (6 * u + i) = rG (cr_rs p g dl lost (u + 1)) i) ∧ J 235 (6 * u + i) = rP (cr_rs p g dl lost (u + 1)) i ∧ J 237 (6 * u + i) = (if i = 0 then 0 else cr_Ht dl lost u (cr_rs p g dl lost u)) ∧ J 238 (6 * u + i) = (if i = 0 then 99 else cr_Ot dl lost u)) ∧ (∀ u, u < t → J 239 u = cr_hs1 J u) ∧ (J 200 55, J 200 56) = cr_tc p g dl lost t ∧ (0 < pL p → pL p < pn p → pfr p < t → J 200 60 = rX (cr_rs p g dl lost t))
theorem cr_mv.agr {p : cr_par} {g : Int32} {dl : Nat} {lost : Int32} {t : Nat} {J : cr_I} (h : cr_mv p g dl lost t J) : cr_agr p t (cr_mms J) (cr_rs p g dl lost t) := by
  refine ⟨fun i hi => h.1 i hi, fun i u hi hu => ?_, h.2.2.2.2⟩
  rw [cr_rs_W t hu]
  exact (h.2.1 i u hi hu).1
theorem cr_mv.step {p : cr_par} {g : Int32} {dl : Nat} {lost : Int32} {t n : Nat} {I J L : cr_I} (h : cr_mv p g dl lost t I) (hn : pn p = n) (hn6 : n ≤ 6) (hn1 : 0 < n) (hd : 1 ≤ dl) (hf : cr_F (cr_PWm t) I J) (hW : ∀ i, i < n → J 236 (6 * t + i) = cr_Wt p dl lost t (cr_mms I) i ∧ J 237 (6 * t + i) = (if i = 0 then 0 else cr_Ht dl lost t (cr_mms I)) ∧ J 238 (6 * t + i) = (if i = 0 then 99 else cr_Ot dl lost t)) (hX : J 200 60 = cr_sgm p t (cr_mms I)) (h9 : J 239 t = cr_hs1 J t) (hq : cr_qgo p t J L) : cr_mv p g dl lost (t + 1) L := by
  obtain ⟨hfL, hS, hXL, hT⟩ := hq
  have ha := h.agr
  subst hn
  have eS : ∀ i, i < pn p → cr_mS1 p t J i = cr_S1 p dl lost t (cr_mms I) i := by
    intro i hi
    unfold cr_mS1 cr_S1
    rw [hf 242 i (by unfold cr_PWm; omega), hf 240 i (by unfold cr_PWm; omega)]
    show cr_clp (psl p i (I 242 i)) (I 240 i + _) = cr_clp (psl p i (I 242 i)) (I 240 i + _)
    have e : (if t < pft p i then (0 : Int32) else J 236 (6 * (t - pft p i) + i)) = (if t < pft p i then 0 else cr_Wh p dl lost t (cr_mms I) (t - pft p i) i) := by
      by_cases q : t < pft p i
      · rw [if_pos q, if_pos q]
      · rw [if_neg q, if_neg q]
        unfold cr_Wh
        by_cases y : t - pft p i = t
        · rw [if_pos y, y]; exact (hW i hi).1
        · rw [if_neg y]; exact hf 236 _ (by unfold cr_PWm; omega)
    rw [e]
  have eG : ∀ i, 1 ≤ i → i < pn p → cr_mG1 p t J i = cr_G1 p dl lost t (cr_mms I) i := by
    intro i hi1 hi
    unfold cr_mG1 cr_G1
    rw [eS i hi, eS (i - 1) (by omega), hf 241 i (by unfold cr_PWm; omega)]
    rfl
  have eX : cr_mX1 p t J = cr_X1 p dl lost t (cr_mms I) := by
    unfold cr_mX1 cr_X1
    rw [hX]
    by_cases q : cr_strS p (pL p) t ∧ pL p < pn p
    · rw [if_pos q, if_pos q, eS _ q.2]
    · rw [if_neg q, if_neg q]
  have eT : cr_firstS (cr_mtc p t J) 1 (pn p - 1) = cr_firstS (cr_tcc p t (cr_rs p g dl lost (t + 1))) 1 (pn p - 1) := by
    rw [show cr_rs p g dl lost (t + 1) = cr_stp p dl lost t (cr_rs p g dl lost t) from rfl, ← (ha.stp (lost := lost) hd).tcc]
    refine cr_firstS_c _ _ (fun i hi1 hi => ?_)
    unfold cr_mtc cr_tcc
    rw [eG i hi1 (by omega), eX]
    rfl
  have h6 : (L 200 55, L 200 56) = cr_tc p g dl lost (t + 1) := by
    rw [hT, hf 200 55 (by unfold cr_PWm; omega), hf 200 56 (by unfold cr_PWm; omega), h.2.2.2.1]
    unfold cr_tcN
    rw [eT, cr_tc]
    cases cr_firstS (cr_tcc p t (cr_rs p g dl lost (t + 1))) 1 (pn p - 1) <;> rfl
  have hstp := ha.stp (lost := lost) hd
  have sS : ∀ i, i < pn p → cr_mS1 p t J i = rS (cr_rs p g dl lost (t + 1)) i := fun i hi => (eS i hi).trans (hstp.1 i hi).1
  have sG : ∀ i, 1 ≤ i → i < pn p → cr_mG1 p t J i = rG (cr_rs p g dl lost (t + 1)) i := fun i hi1 hi => (eG i hi1 hi).trans ((hstp.1 i hi).2.1 hi1)
  have sP : ∀ i, i < pn p → J 242 i + cr_mS1 p t J i = rP (cr_rs p g dl lost (t + 1)) i := fun i hi => by
    rw [eS i hi, hf 242 i (by unfold cr_PWm; omega)]
    exact (hstp.1 i hi).2.2
  refine ⟨fun i hi => ?_, fun i u hi hu => ?_, fun u hu => ?_, h6, fun h0 h1 h2 => ?_⟩
  · obtain ⟨a, b, c, -, -, -⟩ := hS i hi
    exact ⟨a.trans (sS i hi), fun hi1 => (b hi1).trans (sG i hi1 hi), c.trans (sP i hi)⟩
  · rw [hfL 236 _ (by unfold cr_POm; omega), hfL 237 _ (by unfold cr_POm; omega), hfL 238 _ (by unfold cr_POm; omega)]
    by_cases e : u = t
    · subst e
      obtain ⟨-, -, -, d, e, f⟩ := hS i hi
      obtain ⟨w1, w2, w3⟩ := hW i hi
      refine ⟨w1.trans (ha.W hd hi), d.trans (sS i hi), fun hi1 => (e hi1).trans (sG i hi1 hi), f.trans (sP i hi), ?_, w3⟩
      rw [w2, ha.H (by omega) hd]
    · have hk : ¬ (6 * t ≤ 6 * u + i ∧ 6 * u + i < 6 * t + 6) := by omega
      rw [hfL 233 _ (by unfold cr_POm; omega), hfL 234 _ (by unfold cr_POm; omega), hfL 235 _ (by unfold cr_POm; omega), hf 233 _ (by unfold cr_PWm; omega), hf 234 _ (by unfold cr_PWm; omega), hf 235 _ (by unfold cr_PWm; omega), hf 236 _ (by unfold cr_PWm; omega), hf 237 _ (by unfold cr_PWm; omega), hf 238 _ (by unfold cr_PWm; omega)]
      exact h.2.1 i u hi (by omega)
  · unfold cr_hs1
    rw [hfL 239 u (by unfold cr_POm; omega), hfL 236 _ (by unfold cr_POm; omega)]
    by_cases e : u = t
    · rw [e]; exact h9
    · rw [hf 239 u (by unfold cr_PWm; omega), hf 236 _ (by unfold cr_PWm; omega)]
      exact h.2.2.1 u (by omega)
  · rw [hXL, eX]
    exact ha.X1 hd h0 h1 (by omega)
def p_yX9_layRun (τ : Nat → Nat) (x1 x2 x3 : Int32) (I : cr_I) : Prop := cr_mok I ∧ (0 ≤ x2.toInt ∧ x2.toInt ≤ 4)
def q_yX9_layRun (τ : Nat → Nat) (x1 x2 x3 : Int32) (I J : cr_I) : Prop := cr_F cr_PRm I J ∧ cr_mv (cr_mpar I) x1 (cr_dl x2) x3 32 J
theorem bk_yX9_layRun_0 {Γ : cr_G} {K : cr_K} {τ : Nat → Nat} {I : cr_I} {x1 : Int32} {x2 : Int32} {x3 : Int32} (hτ : cr_tau τ)  (h : cr_Ok yX9_layRun cX9_layRun 5 none (cr_rm0 3 78) K 247 247 Γ) (hyp : ∀ J1 : cr_I, J1 = cr_up I 200 55 (-1 : Int32) → (∀ J2 : cr_I, J2 = cr_up J1 200 56 (-1 : Int32) → cr_V Γ 13 [.ref 200, .int x1, .int x2, .int x3, .int (0 : Int32)] [] J2 (cr_rf τ) 247)) : cr_V Γ 0 [.ref 200, .int x1, .int x2, .int x3, .null] [] I (cr_rf τ) 247 := by
  refine cr_aload_n h (j := 0) rfl rfl dX9_layRun_0 ?_
  refine cr_iconst h (v := (-1 : Int32)) (by decide) dX9_layRun_1 ?_
  refine cs_put h (k := 55) cr_clsX9 (by decide) rfl rfl rfl rfl wf_X9_284 (by decide) (by decide) rfl dX9_layRun_2 (fun J1 eJ1 => ?_)
  have hyp := hyp J1 eJ1
  refine cr_aload_n h (j := 0) rfl rfl dX9_layRun_5 ?_
  refine cr_iconst h (v := (-1 : Int32)) (by decide) dX9_layRun_6 ?_
  refine cs_put h (k := 56) cr_clsX9 (by decide) rfl rfl rfl rfl wf_X9_287 (by decide) (by decide) rfl dX9_layRun_7 (fun J2 eJ2 => ?_)
  have hyp := hyp J2 eJ2
  refine cr_iconst h (v := (0 : Int32)) (by decide) dX9_layRun_10 ?_
  refine cr_istore h (by decide) rfl dX9_layRun_11 ?_
  show cr_V Γ 13 [.ref 200, .int x1, .int x2, .int x3, .int (0 : Int32)] [] J2 (cr_rf τ) 247
  exact cr_weak [true, true, true, true, true] hyp
theorem bk_yX9_layRun_13 {Γ : cr_G} {K : cr_K} {τ : Nat → Nat} {I : cr_I} {x1 : Int32} {x2 : Int32} {x3 : Int32} {x4 : Int32} (hτ : cr_tau τ)  (h : cr_Ok yX9_layRun cX9_layRun 5 none (cr_rm0 3 78) K 247 247 Γ) (hyp : ((I 200 13) ≤ x4 → cr_V Γ 67 [.ref 200, .null, .int x2, .int x3, .int (0 : Int32)] [] I (cr_rf τ) 247) ∧ (¬ (I 200 13) ≤ x4 → ((0 ≤ x4.toInt ∧ x4.toInt < 6) ∧ (∀ J3 : cr_I, J3 = cr_up I 240 x4.toNatClampNeg (I 214 1) → ((0 ≤ x4.toInt ∧ x4.toInt < 6) ∧ (∀ J4 : cr_I, J4 = cr_up J3 241 x4.toNatClampNeg x1 → ((0 ≤ x4.toInt ∧ x4.toInt < 6) ∧ (∀ J5 : cr_I, J5 = cr_up J4 242 x4.toNatClampNeg ((300 : Int32) - (x4 * x1)) → (∀ v1 : Int32, v1 = x4 + (1 : Int32) → cr_V Γ 13 [.ref 200, .int x1, .int x2, .int x3, .int v1] [] J5 (cr_rf τ) 247))))))))) : cr_V Γ 13 [.ref 200, .int x1, .int x2, .int x3, .int x4] [] I (cr_rf τ) 247 := by
  refine cr_iload h rfl dX9_layRun_13 ?_
  refine cr_aload_n h (j := 0) rfl rfl dX9_layRun_15 ?_
  refine cr_getI h (k := 13) cr_clsX9 (by decide) rfl rfl wf_X9_46 (by decide) rfl dX9_layRun_16 ?_
  refine cr_icmp_ge h (tgt := 64) (by decide) dX9_layRun_19 (fun c1 => ?_) (fun c1 => ?_)
  · have hyp := hyp.1 c1
    refine cr_iconst h (v := (0 : Int32)) (by decide) dX9_layRun_64 ?_
    refine cr_istore h (by decide) rfl dX9_layRun_65 ?_
    show cr_V Γ 67 [.ref 200, .int x1, .int x2, .int x3, .int (0 : Int32)] [] I (cr_rf τ) 247
    exact cr_weak [true, false, true, true, true] hyp
  · have hyp := hyp.2 c1
    refine cr_aload_n h (j := 0) rfl rfl dX9_layRun_22 ?_
    refine cr_getR h (k := 57) cr_clsX9 (by decide) rfl rfl wf_X9_131 (by decide) rfl rfl dX9_layRun_23 ?_
    refine cr_iload h rfl dX9_layRun_26 ?_
    refine cr_aload_n h (j := 0) rfl rfl dX9_layRun_28 ?_
    refine cr_getR h (k := 15) cr_clsX9 (by decide) rfl rfl wf_X9_53 (by decide) rfl rfl dX9_layRun_29 ?_
    refine cr_iconst h (v := (1 : Int32)) (by decide) dX9_layRun_32 ?_
    refine cs_ild h (by decide) rfl (by decide) (q := 1) (by decide) dX9_layRun_33 ?_
    refine cs_ist h (by decide) (by decide) rfl hyp.1 (q := x4.toNatClampNeg) rfl dX9_layRun_34 (fun J3 eJ3 => ?_)
    have hyp := hyp.2 J3 eJ3
    refine cr_aload_n h (j := 0) rfl rfl dX9_layRun_35 ?_
    refine cr_getR h (k := 58) cr_clsX9 (by decide) rfl rfl wf_X9_134 (by decide) rfl rfl dX9_layRun_36 ?_
    refine cr_iload h rfl dX9_layRun_39 ?_
    refine cr_iload_n h (j := 1) rfl rfl dX9_layRun_41 ?_
    refine cs_ist h (by decide) (by decide) rfl hyp.1 (q := x4.toNatClampNeg) rfl dX9_layRun_42 (fun J4 eJ4 => ?_)
    have hyp := hyp.2 J4 eJ4
    refine cr_aload_n h (j := 0) rfl rfl dX9_layRun_43 ?_
    refine cr_getR h (k := 59) cr_clsX9 (by decide) rfl rfl wf_X9_137 (by decide) rfl rfl dX9_layRun_44 ?_
    refine cr_iload h rfl dX9_layRun_47 ?_
    refine cr_sipush h (v := (300 : Int32)) (by decide) dX9_layRun_49 ?_
    refine cr_iload h rfl dX9_layRun_52 ?_
    refine cr_iload_n h (j := 1) rfl rfl dX9_layRun_54 ?_
    refine cr_imul h dX9_layRun_55 ?_
    refine cr_isub h dX9_layRun_56 ?_
    refine cs_ist h (by decide) (by decide) rfl hyp.1 (q := x4.toNatClampNeg) rfl dX9_layRun_57 (fun J5 eJ5 => ?_)
    have hyp := hyp.2 J5 eJ5
    refine cs_inc h (v := (1 : Int32)) 4 rfl (by decide) (by decide) rfl dX9_layRun_58 (fun v1 ev1 => ?_)
    have hyp := hyp v1 ev1
    show cr_V Γ 61 [.ref 200, .int x1, .int x2, .int x3, .int v1] [] J5 (cr_rf τ) 247
    refine cr_goto h (tgt := 13) (by decide) dX9_layRun_61 ?_
    exact cr_weak [true, true, true, true, true] hyp
theorem bk_yX9_layRun_67 {Γ : cr_G} {K : cr_K} {τ : Nat → Nat} {I : cr_I} {x2 : Int32} {x3 : Int32} {x4 : Int32} (hτ : cr_tau τ)  (h : cr_Ok yX9_layRun cX9_layRun 5 none (cr_rm0 3 78) K 247 247 Γ) (hyp : ((32 : Int32) ≤ x4 → K none I (cr_rf τ)) ∧ (¬ (32 : Int32) ≤ x4 → (p_yX9_layWishes τ x4 (if (1 : Int32) ≤ x2 then x2 else (1 : Int32)) x3 I ∧ (∀ (J6 : cr_I), q_yX9_layWishes τ x4 (if (1 : Int32) ≤ x2 then x2 else (1 : Int32)) x3 I J6 → (p_yX9_goOn τ x4 J6 ∧ (∀ (J7 : cr_I), q_yX9_goOn τ x4 J6 J7 → (∀ v2 : Int32, v2 = x4 + (1 : Int32) → cr_V Γ 67 [.ref 200, .null, .int x2, .int x3, .int v2] [] J7 (cr_rf τ) 247))))))) : cr_V Γ 67 [.ref 200, .null, .int x2, .int x3, .int x4] [] I (cr_rf τ) 247 := by
  refine cr_iload h rfl dX9_layRun_67 ?_
  refine cr_bipush h (v := (32 : Int32)) (by decide) dX9_layRun_69 ?_
  refine cr_icmp_ge h (tgt := 103) (by decide) dX9_layRun_71 (fun c2 => ?_) (fun c2 => ?_)
  · have hyp := hyp.1 c2
    refine cr_vret h rfl rfl dX9_layRun_103 ?_
    exact hyp
  · have hyp := hyp.2 c2
    refine cr_aload_n h (j := 0) rfl rfl dX9_layRun_74 ?_
    refine cr_iload h rfl dX9_layRun_75 ?_
    refine cr_iload_n h (j := 2) rfl rfl dX9_layRun_77 ?_
    refine cr_iconst h (v := (1 : Int32)) (by decide) dX9_layRun_78 ?_
    have J8 : cr_V Γ 87 [.ref 200, .null, .int x2, .int x3, .int x4] [.int (if (1 : Int32) ≤ x2 then x2 else (1 : Int32)), .int x4, .ref 200] I (cr_rf τ) 247 := by
      refine cr_iload_n h (j := 3) rfl rfl dX9_layRun_87 ?_
      refine cr_callV h (c0 := 9) (T0 := TX9) C_yX9_layWishes cZ_yX9_layWishes wm_X9_290 wv_yX9_layWishes we_yX9_layWishes (by decide) rfl rfl (cr_rmS (by decide) (by decide)) (As := [.int x4, .int (if (1 : Int32) ≤ x2 then x2 else (1 : Int32)), .int x3]) rfl (Nat.le_of_ble_eq_true rfl) dX9_layRun_88 ⟨τ, x4, (if (1 : Int32) ≤ x2 then x2 else (1 : Int32)), x3, rfl, hτ, rfl, hyp.1, fun J6 q1 => ?_⟩
      have hyp := hyp.2 J6 q1
      show cr_V Γ 91 [.ref 200, .null, .int x2, .int x3, .int x4] [] J6 (cr_rf τ) 247
      refine cr_aload_n h (j := 0) rfl rfl dX9_layRun_91 ?_
      refine cr_iload h rfl dX9_layRun_92 ?_
      refine cr_callV h (c0 := 9) (T0 := TX9) C_yX9_goOn cZ_yX9_goOn wm_X9_294 wv_yX9_goOn we_yX9_goOn (by decide) rfl rfl (cr_rmS (by decide) (by decide)) (As := [.int x4]) rfl (Nat.le_of_ble_eq_true rfl) dX9_layRun_94 ⟨τ, x4, rfl, hτ, rfl, hyp.1, fun J7 q2 => ?_⟩
      have hyp := hyp.2 J7 q2
      show cr_V Γ 97 [.ref 200, .null, .int x2, .int x3, .int x4] [] J7 (cr_rf τ) 247
      refine cs_inc h (v := (1 : Int32)) 4 rfl (by decide) (by decide) rfl dX9_layRun_97 (fun v2 ev2 => ?_)
      have hyp := hyp v2 ev2
      show cr_V Γ 100 [.ref 200, .null, .int x2, .int x3, .int v2] [] J7 (cr_rf τ) 247
      refine cr_goto h (tgt := 67) (by decide) dX9_layRun_100 ?_
      exact cr_weak [true, false, true, true, true] hyp
    refine cr_icmp_ge h (tgt := 86) (by decide) dX9_layRun_79 (fun c3 => ?_) (fun c3 => ?_)
    · refine cr_iload_n h (j := 2) rfl rfl dX9_layRun_86 ?_
      exact cr_ite (by rw [if_pos c3]) J8
    · refine cr_iconst h (v := (1 : Int32)) (by decide) dX9_layRun_82 ?_
      refine cr_goto h (tgt := 87) (by decide) dX9_layRun_83 ?_
      exact cr_ite (by rw [if_neg c3]) J8
abbrev T_yX9_layRun : cr_T := fun vs I R K => ∃ (τ : Nat → Nat) (x1 : Int32) (x2 : Int32) (x3 : Int32), R = cr_rf τ ∧ cr_tau τ ∧ vs = [.ref 200, .int x1, .int x2, .int x3] ∧ p_yX9_layRun τ x1 x2 x3 I ∧ ∀ J, q_yX9_layRun τ x1 x2 x3 I J → K none J (cr_rf τ)
abbrev S_yX9_layRun : Prop := cr_C yX9_layRun cX9_layRun 5 none (cr_rm0 3 78) 247 247 T_yX9_layRun
theorem G_yX9_layRun (H : ∀ (Γ : cr_G) (K : cr_K) (τ : Nat → Nat) (x1 : Int32) (x2 : Int32) (x3 : Int32) (I : cr_I), cr_tau τ → cr_Ok yX9_layRun cX9_layRun 5 none (cr_rm0 3 78) K 247 247 Γ → p_yX9_layRun τ x1 x2 x3 I → (∀ J, q_yX9_layRun τ x1 x2 x3 I J → K none J (cr_rf τ)) → cr_V Γ 0 [.ref 200, .int x1, .int x2, .int x3, .null] [] I (cr_rf τ) 247) : cr_C yX9_layRun cX9_layRun 5 none (cr_rm0 3 78) 247 247 T_yX9_layRun := by
  refine cr_C.of (by decide +kernel) (fun vs I R K hT => ?_) (fun Γ K h vs I R hT => ?_)
  · obtain ⟨τ, x1, x2, x3, rfl, hτ, rfl, hp, hK⟩ := hT
    exact Nat.le_of_ble_eq_true rfl
  · obtain ⟨τ, x1, x2, x3, rfl, hτ, rfl, hp, hK⟩ := hT
    exact H Γ K τ x1 x2 x3 I hτ h hp hK
theorem C_yX9_layRun : S_yX9_layRun := G_yX9_layRun (by
  intro Γ K τ x1 x2 x3 I hτ h hp hK
  obtain ⟨hok, hw⟩ := hp
  obtain ⟨eN, h1, h6⟩ := hok.1.un
  obtain ⟨e2, hw4⟩ := cr_ofI (B := 4) hw.1 hw.2
  have hdl : (if (1 : Int32) ≤ x2 then x2 else (1 : Int32)) = nI (cr_dl x2) := by
    unfold cr_dl
    generalize x2.toNatClampNeg = w at *
    subst e2
    have c : ((1 : Int32) ≤ nI w) ↔ 1 ≤ w := cr_nlq (a := 1) (by omega) (by omega)
    by_cases q : 1 ≤ w
    · rw [if_pos (c.mpr q)]
      by_cases y : 1 < w
      · rw [if_pos y]
      · rw [if_neg y, show w = 1 by omega]
    · rw [if_neg (fun z => q (c.mp z)), if_neg (show ¬ 1 < w by omega)]
      rfl
  have hdl1 : 1 ≤ cr_dl x2 := cr_dl1
  have hdl4 : cr_dl x2 ≤ 4 := by unfold cr_dl; split <;> omega
  unfold q_yX9_layRun at hK
  have hpn : pn (cr_mpar I) = cr_mn0 I := rfl
  have hps : ps0 (cr_mpar I) = I 214 1 := rfl
  have hpar : ∀ {J : cr_I}, cr_F cr_PRm I J → cr_mpar J = cr_mpar I := fun hf => cr_mpar_fr hf
  have hmn : ∀ {J : cr_I}, cr_F cr_PRm I J → cr_mn0 J = cr_mn0 I := fun hf => cr_mn0_fr hf
  generalize cr_mpar I = pp at *
  generalize cr_mn0 I = n at *
  generalize cr_dl x2 = dl at *
  -- the ticks
  have ticks : ∀ M : cr_I, cr_F cr_PRm I M → cr_mv pp x1 dl x3 0 M → cr_V Γ 67 [.ref 200, .null, .int x2, .int x3, .int (0 : Int32)] [] M (cr_rf τ) 247 := by
    refine cr_loop (fun t => ∀ M : cr_I, cr_F cr_PRm I M → cr_mv pp x1 dl x3 t M → cr_V Γ 67 [.ref 200, .null, .int x2, .int x3, .int (nI t)] [] M (cr_rf τ) 247) 32 ?_ ?_ 0 (Nat.zero_le _)
    · intro M hf hv
      exact bk_yX9_layRun_67 hτ h ⟨fun _ => hK _ ⟨hf, hv⟩, fun z => absurd (by decide) z⟩
    · intro t ht ih M hf hv
      refine bk_yX9_layRun_67 hτ h ⟨fun z => absurd z (nI_ge (a := t) (b := 32) ht (by omega)), fun _ => ?_⟩
      rw [hdl]
      refine ⟨⟨hok.fr hf, ⟨by rw [cr_nt (by omega)]; omega, by rw [cr_nt (by omega)]; omega⟩, fun u hu => ?_⟩, fun J6 hq => ?_⟩
      · rw [cr_nc (by omega)] at hu
        exact hv.2.2.1 u hu
      · unfold q_yX9_layWishes at hq
        rw [cr_nc (show t < 100000 by omega), cr_nc (show dl < 100000 by omega), hpar hf, hmn hf] at hq
        obtain ⟨q1, q2, q3, q4⟩ := hq
        have hf6 := hf.tr (cr_PWm.w q1)
        refine ⟨⟨hok.fr hf6, by rw [cr_nt (by omega)]; omega⟩, fun J7 hq7 => ?_⟩
        unfold q_yX9_goOn at hq7
        rw [cr_nc (show t < 100000 by omega), hpar hf6] at hq7
        rintro v rfl
        rw [nI_1]
        exact ih J7 (hf6.tr (cr_POm.w hq7.1)) (hv.step hpn h6 (by omega) hdl1 q1 q2 q3 q4 hq7)
  refine bk_yX9_layRun_0 hτ h ?_
  rintro J1 rfl J2 rfl
  refine cr_loop (fun i => ∀ M : cr_I, cr_F cr_PRm I M → (M 200 55 = -1 ∧ M 200 56 = -1) → (∀ j, j < i → M 240 j = I 214 1 ∧ M 241 j = x1 ∧ M 242 j = 300 - nI j * x1) → cr_V Γ 13 [.ref 200, .int x1, .int x2, .int x3, .int (nI i)] [] M (cr_rf τ) 247) n ?_ ?_ 0 (Nat.zero_le _) _ ((cr_F.rf.up (by unfold cr_PRm; omega)).up (by unfold cr_PRm; omega)) ⟨by rw [cr_up_k (by decide), cr_up_s], cr_up_s⟩ (fun j hj => absurd hj (Nat.not_lt_zero _))
  · intro M hf h5 hj
    refine bk_yX9_layRun_13 hτ h ⟨fun _ => ticks M hf ⟨fun i hi => ?_, fun i u _ hu => absurd hu (Nat.not_lt_zero _), fun u hu => absurd hu (Nat.not_lt_zero _), by rw [h5.1, h5.2]; rfl, fun _ _ z => absurd z (Nat.not_lt_zero _)⟩, fun c => absurd ?_ c⟩
    · obtain ⟨a, b, c⟩ := hj i (by omega)
      exact ⟨a.trans hps.symm, fun _ => b, c⟩
    · rw [cr_PRm_f hf (k := 13) (by decide), eN]; exact Int32.le_refl _
  · intro i hi ih M hf h5 hj
    have hxi : (0 : Int) ≤ (nI i).toInt ∧ (nI i).toInt < 6 := cr_ix (by omega) (by omega)
    refine bk_yX9_layRun_13 hτ h ⟨fun c => absurd c ?_, fun _ => ⟨hxi, ?_⟩⟩
    · rw [cr_PRm_f hf (k := 13) (by decide), eN]; exact cr_nle hi (by omega)
    · rw [cr_nc (show i < 100000 by omega), hf 214 1 (by unfold cr_PRm; omega)]
      rintro J3 rfl
      refine ⟨hxi, ?_⟩
      rintro J4 rfl
      refine ⟨hxi, ?_⟩
      rintro J5 rfl v rfl
      rw [nI_1]
      refine ih _ (((hf.up (by unfold cr_PRm; omega)).up (by unfold cr_PRm; omega)).up (by unfold cr_PRm; omega)) ?_ (fun j hji => ?_)
      · rw [cr_up_b (by decide), cr_up_b (by decide), cr_up_b (by decide), cr_up_b (by decide), cr_up_b (by decide), cr_up_b (by decide)]; exact h5
      · by_cases q : j = i
        · subst q
          refine ⟨?_, ?_, cr_up_s⟩
          · rw [cr_up_b (by decide), cr_up_b (by decide), cr_up_s]
          · rw [cr_up_b (by decide), cr_up_s]
        · obtain ⟨a, b, c⟩ := hj j (by omega)
          refine ⟨?_, ?_, ?_⟩
          · rw [cr_up_b (by decide), cr_up_b (by decide), cr_up_k q]; exact a
          · rw [cr_up_b (by decide), cr_up_k q, cr_up_b (by decide)]; exact b
          · rw [cr_up_k q, cr_up_b (by decide), cr_up_b (by decide)]; exact c)
