/-! journeys: what hours of leaving cost -/
theorem cr_in {τ : Nat → Nat} {x0 x2 x4 : Int64} {I : cr_I} : f_yX9_in τ x0 x2 x4 I = if x2.toInt ≤ x0.toInt ∧ x0.toInt ≤ x4.toInt then 1 else 0 := by
  have e1 : (lg_cmp x0 x2 < 0) ↔ x0.toInt < x2.toInt := by
    have := lg_cmp_ge x0 x2
    rw [Int64.le_iff_toInt_le] at this
    have h2 : lg_cmp x0 x2 < 0 ↔ ¬ (0 ≤ lg_cmp x0 x2) := Int32.not_le.symm
    rw [h2, this]
    omega
  have e2 : (0 < lg_cmp x0 x4) ↔ x4.toInt < x0.toInt := by
    have := lg_cmp_le x0 x4
    rw [Int64.le_iff_toInt_le] at this
    have h2 : 0 < lg_cmp x0 x4 ↔ ¬ (lg_cmp x0 x4 ≤ 0) := Int32.not_le.symm
    rw [h2, this]
    omega
  unfold f_yX9_in
  by_cases h1 : x2.toInt ≤ x0.toInt
  · have n1 : ¬ lg_cmp x0 x2 < 0 := fun q => by rw [e1] at q; omega
    by_cases h2 : x0.toInt ≤ x4.toInt
    · have n2 : ¬ 0 < lg_cmp x0 x4 := fun q => by rw [e2] at q; omega
      simp only [if_neg n1, if_neg n2, h1, h2, and_self, if_true]
    · have n2 : 0 < lg_cmp x0 x4 := by rw [e2]; omega
      simp only [if_neg n1, if_pos n2, h1, h2, and_false, if_false]
  · have n1 : lg_cmp x0 x2 < 0 := by rw [e1]; omega
    simp only [if_pos n1, h1, false_and, if_false]
theorem cr_in0 {τ : Nat → Nat} {x0 x2 x4 : Int64} {I : cr_I} : f_yX9_in τ x0 x2 x4 I = 0 ↔ ¬ (x2.toInt ≤ x0.toInt ∧ x0.toInt ≤ x4.toInt) := by
  rw [cr_in]
  split
  · rename_i c
    exact ⟨fun q => absurd q (by decide), fun q => absurd c q⟩
  · rename_i c
    exact ⟨fun _ => c, fun _ => rfl⟩
/-- one of the first k journeys leads j at place q -/
def cr_ledS (fr to hr mw : Nat → Int32) (j : Nat) (q : Int32) : Nat → Bool
  | 0 => false
  | k + 1 => cr_ledS fr to hr mw j q k || (decide (k ≠ j) && decide ((fr k).toInt ≤ q.toInt ∧ q.toInt < (to k).toInt) && decide (hr k - fr k = hr j - fr j) && decide ((mw j).toInt < (mw k).toInt ∨ ((mw k).toInt = (mw j).toInt ∧ k < j)))
def cr_burnS (n : Nat) (fr to hr mw : Nat → Int32) (sp : Int32) (j : Nat) (q : Int32) : Int32 := if cr_ledS fr to hr mw j q n then (if 1 < mw j - sp then mw j - sp else 1) else mw j
def cr_rowS (n : Nat) (fr to hr mw : Nat → Int32) (sp : Int32) (j : Nat) : Nat → Int32
  | 0 => 0
  | m + 1 => cr_rowS n fr to hr mw sp j m + cr_burnS n fr to hr mw sp j (fr j + nI m)
def cr_costS (n : Nat) (fr to fs hr mw : Nat → Int32) (sp lt : Int32) : Nat → Int32
  | 0 => 0
  | j + 1 => cr_costS n fr to fs hr mw sp lt j + (lt * (hr j - fs j) + cr_rowS n fr to hr mw sp j ((to j).toInt - (fr j).toInt).toNat)
/-- a journey's places and make are as told -/
def cr_jw (n : Nat) (fr to mk : Nat → Int32) : Prop := n ≤ 5 ∧ ∀ j, j < n → (0 ≤ (fr j).toInt ∧ (fr j).toInt < (to j).toInt ∧ (to j).toInt ≤ 9) ∧ (0 ≤ (mk j).toInt ∧ (mk j).toInt < 4)
def cr_jmw (I : cr_I) (j : Nat) : Int32 := I (29 + 25 * (I 174 j).toNatClampNeg) 0
def f_yX1_leavesWith (τ : Nat → Nat) (x1 : Int32) (x2 : Int32) (x3 : Int32) (I : cr_I) : Int32 := if x3 < (I 170 x2.toNatClampNeg) then (0 : Int32) else if (I 171 x2.toNatClampNeg) ≤ x3 then (0 : Int32) else if ((I 175 x2.toNatClampNeg) - (I 170 x2.toNatClampNeg)) = ((I 175 x1.toNatClampNeg) - (I 170 x1.toNatClampNeg)) then (1 : Int32) else (0 : Int32)
def p_yX1_leavesWith (τ : Nat → Nat) (x1 : Int32) (x2 : Int32) (x3 : Int32) (I : cr_I) : Prop := (0 ≤ x2.toInt ∧ x2.toInt < 5) ∧ (x3 < (I 170 x2.toNatClampNeg) → True) ∧ (¬ x3 < (I 170 x2.toNatClampNeg) → ((0 ≤ x2.toInt ∧ x2.toInt < 5) ∧ ((I 171 x2.toNatClampNeg) ≤ x3 → True) ∧ (¬ (I 171 x2.toNatClampNeg) ≤ x3 → ((0 ≤ x2.toInt ∧ x2.toInt < 5) ∧ (0 ≤ x2.toInt ∧ x2.toInt < 5) ∧ (0 ≤ x1.toInt ∧ x1.toInt < 5) ∧ (0 ≤ x1.toInt ∧ x1.toInt < 5) ∧ (¬ ((I 175 x2.toNatClampNeg) - (I 170 x2.toNatClampNeg)) = ((I 175 x1.toNatClampNeg) - (I 170 x1.toNatClampNeg)) → True) ∧ (((I 175 x2.toNatClampNeg) - (I 170 x2.toNatClampNeg)) = ((I 175 x1.toNatClampNeg) - (I 170 x1.toNatClampNeg)) → True)))))
abbrev T_yX1_leavesWith : cr_T := fun vs I R K => ∃ (τ : Nat → Nat) (x1 : Int32) (x2 : Int32) (x3 : Int32), R = cr_rf τ ∧ cr_tau τ ∧ vs = [.ref 169, .int x1, .int x2, .int x3] ∧ p_yX1_leavesWith τ x1 x2 x3 I ∧ K (some (.int (f_yX1_leavesWith τ x1 x2 x3 I))) I (cr_rf τ)
theorem C_yX1_leavesWith : cr_C yX1_leavesWith cX1_leavesWith 4 (some .boolean) (cr_rm0 0 0) 247 247 T_yX1_leavesWith := by
  refine cr_C.of (by decide +kernel) (fun vs I R K hT => ?_) (fun Γ K h vs I R hT => ?_)
  · obtain ⟨τ, x1, x2, x3, rfl, hτ, rfl, hyp, hK⟩ := hT
    exact Nat.le_of_ble_eq_true rfl
  · obtain ⟨τ, x1, x2, x3, rfl, hτ, rfl, hyp, hK⟩ := hT
    show cr_V Γ 0 [.ref 169, .int x1, .int x2, .int x3] [] I (cr_rf τ) 247
    refine cr_iload_n h (j := 3) rfl rfl dX1_leavesWith_0 ?_
    refine cr_aload_n h (j := 0) rfl rfl dX1_leavesWith_1 ?_
    refine cr_getR h (k := 1) cr_clsX1 (by decide) rfl rfl wf_X1_15 (by decide) rfl rfl dX1_leavesWith_2 ?_
    refine cr_iload_n h (j := 2) rfl rfl dX1_leavesWith_5 ?_
    refine cs_ild h (by decide) rfl hyp.1 (q := x2.toNatClampNeg) rfl dX1_leavesWith_6 ?_
    have hyp := hyp.2
    refine cr_icmp_lt h (tgt := 53) (by decide) dX1_leavesWith_7 (fun c1 => ?_) (fun c1 => ?_)
    · have hyp := hyp.1 c1
      refine cr_iconst h (v := (0 : Int32)) (by decide) dX1_leavesWith_53 ?_
      refine cr_iret h rfl (by decide) rfl dX1_leavesWith_54 ?_
      rw [f_yX1_leavesWith, if_pos c1] at hK
      exact hK
    · have hyp := hyp.2 c1
      refine cr_iload_n h (j := 3) rfl rfl dX1_leavesWith_10 ?_
      refine cr_aload_n h (j := 0) rfl rfl dX1_leavesWith_11 ?_
      refine cr_getR h (k := 2) cr_clsX1 (by decide) rfl rfl wf_X1_19 (by decide) rfl rfl dX1_leavesWith_12 ?_
      refine cr_iload_n h (j := 2) rfl rfl dX1_leavesWith_15 ?_
      refine cs_ild h (by decide) rfl hyp.1 (q := x2.toNatClampNeg) rfl dX1_leavesWith_16 ?_
      have hyp := hyp.2
      refine cr_icmp_ge h (tgt := 53) (by decide) dX1_leavesWith_17 (fun c2 => ?_) (fun c2 => ?_)
      · have hyp := hyp.1 c2
        refine cr_iconst h (v := (0 : Int32)) (by decide) dX1_leavesWith_53 ?_
        refine cr_iret h rfl (by decide) rfl dX1_leavesWith_54 ?_
        rw [f_yX1_leavesWith, if_neg c1, if_pos c2] at hK
        exact hK
      · have hyp := hyp.2 c2
        refine cr_aload_n h (j := 0) rfl rfl dX1_leavesWith_20 ?_
        refine cr_getR h (k := 6) cr_clsX1 (by decide) rfl rfl wf_X1_31 (by decide) rfl rfl dX1_leavesWith_21 ?_
        refine cr_iload_n h (j := 2) rfl rfl dX1_leavesWith_24 ?_
        refine cs_ild h (by decide) rfl hyp.1 (q := x2.toNatClampNeg) rfl dX1_leavesWith_25 ?_
        have hyp := hyp.2
        refine cr_aload_n h (j := 0) rfl rfl dX1_leavesWith_26 ?_
        refine cr_getR h (k := 1) cr_clsX1 (by decide) rfl rfl wf_X1_15 (by decide) rfl rfl dX1_leavesWith_27 ?_
        refine cr_iload_n h (j := 2) rfl rfl dX1_leavesWith_30 ?_
        refine cs_ild h (by decide) rfl hyp.1 (q := x2.toNatClampNeg) rfl dX1_leavesWith_31 ?_
        have hyp := hyp.2
        refine cr_isub h dX1_leavesWith_32 ?_
        refine cr_aload_n h (j := 0) rfl rfl dX1_leavesWith_33 ?_
        refine cr_getR h (k := 6) cr_clsX1 (by decide) rfl rfl wf_X1_31 (by decide) rfl rfl dX1_leavesWith_34 ?_
        refine cr_iload_n h (j := 1) rfl rfl dX1_leavesWith_37 ?_
        refine cs_ild h (by decide) rfl hyp.1 (q := x1.toNatClampNeg) rfl dX1_leavesWith_38 ?_
        have hyp := hyp.2
        refine cr_aload_n h (j := 0) rfl rfl dX1_leavesWith_39 ?_
        refine cr_getR h (k := 1) cr_clsX1 (by decide) rfl rfl wf_X1_15 (by decide) rfl rfl dX1_leavesWith_40 ?_
        refine cr_iload_n h (j := 1) rfl rfl dX1_leavesWith_43 ?_
        refine cs_ild h (by decide) rfl hyp.1 (q := x1.toNatClampNeg) rfl dX1_leavesWith_44 ?_
        have hyp := hyp.2
        refine cr_isub h dX1_leavesWith_45 ?_
        refine cr_icmp_ne h (tgt := 53) (by decide) dX1_leavesWith_46 (fun c3 => ?_) (fun c3 => ?_)
        · have hyp := hyp.1 c3
          refine cr_iconst h (v := (0 : Int32)) (by decide) dX1_leavesWith_53 ?_
          refine cr_iret h rfl (by decide) rfl dX1_leavesWith_54 ?_
          rw [f_yX1_leavesWith, if_neg c1, if_neg c2, if_neg c3] at hK
          exact hK
        · have hyp := hyp.2 c3
          refine cr_iconst h (v := (1 : Int32)) (by decide) dX1_leavesWith_49 ?_
          refine cr_goto h (tgt := 54) (by decide) dX1_leavesWith_50 ?_
          refine cr_iret h rfl (by decide) rfl dX1_leavesWith_54 ?_
          rw [f_yX1_leavesWith, if_neg c1, if_neg c2, if_pos c3] at hK
          exact hK
theorem nb_yX1_leavesWith {τ : Nat → Nat} {x1 : Int32} {x2 : Int32} {x3 : Int32} {I : cr_I} : narrow .boolean (.int (f_yX1_leavesWith τ x1 x2 x3 I)) = .int (f_yX1_leavesWith τ x1 x2 x3 I) := by
  unfold f_yX1_leavesWith
  first | (repeat' split) <;> first | rfl | (exact rfl)
def f_yX1_leads (τ : Nat → Nat) (x2 : Int32) (x3 : Int32) (I : cr_I) : Int32 := if ((I (29 + 25 * (I 174 x3.toNatClampNeg).toNatClampNeg) 0)) < ((I (29 + 25 * (I 174 x2.toNatClampNeg).toNatClampNeg) 0)) then (1 : Int32) else if ((I (29 + 25 * (I 174 x2.toNatClampNeg).toNatClampNeg) 0)) = ((I (29 + 25 * (I 174 x3.toNatClampNeg).toNatClampNeg) 0)) then if x3 ≤ x2 then (0 : Int32) else (1 : Int32) else (0 : Int32)
def p_yX1_leads (τ : Nat → Nat) (x2 : Int32) (x3 : Int32) (I : cr_I) : Prop := (0 ≤ x2.toInt ∧ x2.toInt < 5) ∧ (0 ≤ (I 174 x2.toNatClampNeg).toInt ∧ (I 174 x2.toNatClampNeg).toInt < 4) ∧ ∀ v1 : Int32, v1 = (I (29 + 25 * (I 174 x2.toNatClampNeg).toNatClampNeg) 0) → (0 ≤ x3.toInt ∧ x3.toInt < 5) ∧ (0 ≤ (I 174 x3.toNatClampNeg).toInt ∧ (I 174 x3.toNatClampNeg).toInt < 4) ∧ ∀ v2 : Int32, v2 = (I (29 + 25 * (I 174 x3.toNatClampNeg).toNatClampNeg) 0) → (v2 < v1 → True) ∧ (¬ v2 < v1 → ((¬ v1 = v2 → True) ∧ (v1 = v2 → ((x3 ≤ x2 → True) ∧ (¬ x3 ≤ x2 → True)))))
abbrev T_yX1_leads : cr_T := fun vs I R K => ∃ (τ : Nat → Nat) (x2 : Int32) (x3 : Int32), R = cr_rf τ ∧ cr_tau τ ∧ vs = [.ref 169, .ref 27, .int x2, .int x3] ∧ p_yX1_leads τ x2 x3 I ∧ K (some (.int (f_yX1_leads τ x2 x3 I))) I (cr_rf τ)
theorem C_yX1_leads : cr_C yX1_leads cX1_leads 6 (some .boolean) (cr_rm0 0 0) 247 247 T_yX1_leads := by
  refine cr_C.of (by decide +kernel) (fun vs I R K hT => ?_) (fun Γ K h vs I R hT => ?_)
  · obtain ⟨τ, x2, x3, rfl, hτ, rfl, hyp, hK⟩ := hT
    exact Nat.le_of_ble_eq_true rfl
  · obtain ⟨τ, x2, x3, rfl, hτ, rfl, hyp, hK⟩ := hT
    show cr_V Γ 0 [.ref 169, .ref 27, .int x2, .int x3, .null, .null] [] I (cr_rf τ) 247
    refine cr_aload_n h (j := 1) rfl rfl dX1_leads_0 ?_
    refine cr_getR h (k := 0) cr_clsX3 (by decide) rfl rfl wf_X1_46 (by decide) rfl rfl dX1_leads_1 ?_
    refine cr_aload_n h (j := 0) rfl rfl dX1_leads_4 ?_
    refine cr_getR h (k := 5) cr_clsX1 (by decide) rfl rfl wf_X1_28 (by decide) rfl rfl dX1_leads_5 ?_
    refine cr_iload_n h (j := 2) rfl rfl dX1_leads_8 ?_
    refine cs_ild h (by decide) rfl hyp.1 (q := x2.toNatClampNeg) rfl dX1_leads_9 ?_
    have hyp := hyp.2
    have hb1 := hyp.1
    have hyp := hyp.2
    refine cr_aaldM h (by decide) rfl hb1 ((kr_28 hb1).2.2.1 τ) dX1_leads_10 ?_
    refine cr_getI h (k := 0) cr_clsX2 (by decide) rfl rfl wf_X1_50 (kr_28 hb1).1 (kr_28 hb1).2.1 dX1_leads_11 ?_
    refine cs_i h 4 (by decide) rfl dX1_leads_14 (fun v1 ev1 => ?_)
    have hyp := hyp v1 ev1
    show cr_V Γ 16 [.ref 169, .ref 27, .int x2, .int x3, .int v1, .null] [] I (cr_rf τ) 247
    refine cr_aload_n h (j := 1) rfl rfl dX1_leads_16 ?_
    refine cr_getR h (k := 0) cr_clsX3 (by decide) rfl rfl wf_X1_46 (by decide) rfl rfl dX1_leads_17 ?_
    refine cr_aload_n h (j := 0) rfl rfl dX1_leads_20 ?_
    refine cr_getR h (k := 5) cr_clsX1 (by decide) rfl rfl wf_X1_28 (by decide) rfl rfl dX1_leads_21 ?_
    refine cr_iload_n h (j := 3) rfl rfl dX1_leads_24 ?_
    refine cs_ild h (by decide) rfl hyp.1 (q := x3.toNatClampNeg) rfl dX1_leads_25 ?_
    have hyp := hyp.2
    have hb2 := hyp.1
    have hyp := hyp.2
    refine cr_aaldM h (by decide) rfl hb2 ((kr_28 hb2).2.2.1 τ) dX1_leads_26 ?_
    refine cr_getI h (k := 0) cr_clsX2 (by decide) rfl rfl wf_X1_50 (kr_28 hb2).1 (kr_28 hb2).2.1 dX1_leads_27 ?_
    refine cs_i h 5 (by decide) rfl dX1_leads_30 (fun v2 ev2 => ?_)
    have hyp := hyp v2 ev2
    show cr_V Γ 32 [.ref 169, .ref 27, .int x2, .int x3, .int v1, .int v2] [] I (cr_rf τ) 247
    refine cr_iload h rfl dX1_leads_32 ?_
    refine cr_iload h rfl dX1_leads_34 ?_
    refine cr_icmp_gt h (tgt := 51) (by decide) dX1_leads_36 (fun c1 => ?_) (fun c1 => ?_)
    · have hyp := hyp.1 c1
      refine cr_iconst h (v := (1 : Int32)) (by decide) dX1_leads_51 ?_
      refine cr_goto h (tgt := 56) (by decide) dX1_leads_52 ?_
      refine cr_iret h rfl (by decide) rfl dX1_leads_56 ?_
      subst ev1
      subst ev2
      rw [f_yX1_leads, if_pos c1] at hK
      exact hK
    · have hyp := hyp.2 c1
      refine cr_iload h rfl dX1_leads_39 ?_
      refine cr_iload h rfl dX1_leads_41 ?_
      refine cr_icmp_ne h (tgt := 55) (by decide) dX1_leads_43 (fun c2 => ?_) (fun c2 => ?_)
      · have hyp := hyp.1 c2
        refine cr_iconst h (v := (0 : Int32)) (by decide) dX1_leads_55 ?_
        refine cr_iret h rfl (by decide) rfl dX1_leads_56 ?_
        subst ev1
        subst ev2
        rw [f_yX1_leads, if_neg c1, if_neg c2] at hK
        exact hK
      · have hyp := hyp.2 c2
        refine cr_iload_n h (j := 2) rfl rfl dX1_leads_46 ?_
        refine cr_iload_n h (j := 3) rfl rfl dX1_leads_47 ?_
        refine cr_icmp_ge h (tgt := 55) (by decide) dX1_leads_48 (fun c3 => ?_) (fun c3 => ?_)
        · have hyp := hyp.1 c3
          refine cr_iconst h (v := (0 : Int32)) (by decide) dX1_leads_55 ?_
          refine cr_iret h rfl (by decide) rfl dX1_leads_56 ?_
          subst ev1
          subst ev2
          rw [f_yX1_leads, if_neg c1, if_pos c2, if_pos c3] at hK
          exact hK
        · have hyp := hyp.2 c3
          refine cr_iconst h (v := (1 : Int32)) (by decide) dX1_leads_51 ?_
          refine cr_goto h (tgt := 56) (by decide) dX1_leads_52 ?_
          refine cr_iret h rfl (by decide) rfl dX1_leads_56 ?_
          subst ev1
          subst ev2
          rw [f_yX1_leads, if_neg c1, if_pos c2, if_neg c3] at hK
          exact hK
theorem nb_yX1_leads {τ : Nat → Nat} {x2 : Int32} {x3 : Int32} {I : cr_I} : narrow .boolean (.int (f_yX1_leads τ x2 x3 I)) = .int (f_yX1_leads τ x2 x3 I) := by
  unfold f_yX1_leads
  first | (repeat' split) <;> first | rfl | (exact rfl)
def cr_jn (I : cr_I) : Nat := (I 169 0).toNatClampNeg
def cr_jok (I : cr_I) : Prop := (0 ≤ (I 169 0).toInt ∧ (I 169 0).toInt ≤ 5) ∧ cr_jw (cr_jn I) (I 170) (I 171) (I 174)
def f_yX1_burnt (τ : Nat → Nat) (x2 x3 : Int32) (I : cr_I) : Int32 := cr_burnS (cr_jn I) (I 170) (I 171) (I 175) (cr_jmw I) (I 130 3) x2.toNatClampNeg x3
def p_yX1_burnt (τ : Nat → Nat) (x2 x3 : Int32) (I : cr_I) : Prop := cr_jok I ∧ 0 ≤ x2.toInt ∧ x2.toInt < (I 169 0).toInt
theorem bk_yX1_burnt_0 {Γ : cr_G} {K : cr_K} {τ : Nat → Nat} {I : cr_I} {x2 : Int32} {x3 : Int32} (hτ : cr_tau τ)  (h : cr_Ok yX1_burnt cX1_burnt 6 (some .int) (cr_rm0 1 25) K 247 247 Γ) (hyp : (0 ≤ x2.toInt ∧ x2.toInt < 5) ∧ (0 ≤ (I 174 x2.toNatClampNeg).toInt ∧ (I 174 x2.toNatClampNeg).toInt < 4) ∧ (∀ v1 : Int32, v1 = (I (29 + 25 * (I 174 x2.toNatClampNeg).toNatClampNeg) 0) → cr_V Γ 19 [.ref 169, .ref 27, .int x2, .int x3, .int v1, .int (0 : Int32)] [] I (cr_rf τ) 247)) : cr_V Γ 0 [.ref 169, .ref 27, .int x2, .int x3, .null, .null] [] I (cr_rf τ) 247 := by
  refine cr_aload_n h (j := 1) rfl rfl dX1_burnt_0 ?_
  refine cr_getR h (k := 0) cr_clsX3 (by decide) rfl rfl wf_X1_46 (by decide) rfl rfl dX1_burnt_1 ?_
  refine cr_aload_n h (j := 0) rfl rfl dX1_burnt_4 ?_
  refine cr_getR h (k := 5) cr_clsX1 (by decide) rfl rfl wf_X1_28 (by decide) rfl rfl dX1_burnt_5 ?_
  refine cr_iload_n h (j := 2) rfl rfl dX1_burnt_8 ?_
  refine cs_ild h (by decide) rfl hyp.1 (q := x2.toNatClampNeg) rfl dX1_burnt_9 ?_
  have hyp := hyp.2
  have hb1 := hyp.1
  have hyp := hyp.2
  refine cr_aaldM h (by decide) rfl hb1 ((kr_28 hb1).2.2.1 τ) dX1_burnt_10 ?_
  refine cr_getI h (k := 0) cr_clsX2 (by decide) rfl rfl wf_X1_50 (kr_28 hb1).1 (kr_28 hb1).2.1 dX1_burnt_11 ?_
  refine cs_i h 4 (by decide) rfl dX1_burnt_14 (fun v1 ev1 => ?_)
  have hyp := hyp v1 ev1
  show cr_V Γ 16 [.ref 169, .ref 27, .int x2, .int x3, .int v1, .null] [] I (cr_rf τ) 247
  refine cr_iconst h (v := (0 : Int32)) (by decide) dX1_burnt_16 ?_
  refine cr_istore h (by decide) rfl dX1_burnt_17 ?_
  show cr_V Γ 19 [.ref 169, .ref 27, .int x2, .int x3, .int v1, .int (0 : Int32)] [] I (cr_rf τ) 247
  exact cr_weak [true, true, true, true, true, true] hyp
theorem bk_yX1_burnt_19 {Γ : cr_G} {K : cr_K} {τ : Nat → Nat} {I : cr_I} {x2 : Int32} {x3 : Int32} {x4 : Int32} {x5 : Int32} (hτ : cr_tau τ)  (h : cr_Ok yX1_burnt cX1_burnt 6 (some .int) (cr_rm0 1 25) K 247 247 Γ) (hyp : ((I 169 0) ≤ x5 → K (some (.int x4)) I (cr_rf τ)) ∧ (¬ (I 169 0) ≤ x5 → ((x5 = x2 → (∀ v2 : Int32, v2 = x5 + (1 : Int32) → cr_V Γ 19 [.ref 169, .ref 27, .int x2, .int x3, .int x4, .int v2] [] I (cr_rf τ) 247)) ∧ (¬ x5 = x2 → (p_yX1_leavesWith τ x2 x5 x3 I ∧ ((f_yX1_leavesWith τ x2 x5 x3 I) = 0 → (∀ v3 : Int32, v3 = x5 + (1 : Int32) → cr_V Γ 19 [.ref 169, .ref 27, .int x2, .int x3, .int x4, .int v3] [] I (cr_rf τ) 247)) ∧ (¬ (f_yX1_leavesWith τ x2 x5 x3 I) = 0 → (p_yX1_leads τ x5 x2 I ∧ ((f_yX1_leads τ x5 x2 I) = 0 → (∀ v4 : Int32, v4 = x5 + (1 : Int32) → cr_V Γ 19 [.ref 169, .ref 27, .int x2, .int x3, .int x4, .int v4] [] I (cr_rf τ) 247)) ∧ (¬ (f_yX1_leads τ x5 x2 I) = 0 → K (some (.int (f_yJ9_max_7cf53 τ (1 : Int32) (x4 - (I 130 3)) I))) I (cr_rf τ))))))))) : cr_V Γ 19 [.ref 169, .ref 27, .int x2, .int x3, .int x4, .int x5] [] I (cr_rf τ) 247 := by
  refine cr_iload h rfl dX1_burnt_19 ?_
  refine cr_aload_n h (j := 0) rfl rfl dX1_burnt_21 ?_
  refine cr_getI h (k := 0) cr_clsX1 (by decide) rfl rfl wf_X1_9 (by decide) rfl dX1_burnt_22 ?_
  refine cr_icmp_ge h (tgt := 76) (by decide) dX1_burnt_25 (fun c1 => ?_) (fun c1 => ?_)
  · have hyp := hyp.1 c1
    refine cr_iload h rfl dX1_burnt_76 ?_
    refine cr_iret h rfl rfl rfl dX1_burnt_78 ?_
    exact hyp
  · have hyp := hyp.2 c1
    refine cr_iload h rfl dX1_burnt_28 ?_
    refine cr_iload_n h (j := 2) rfl rfl dX1_burnt_30 ?_
    refine cr_icmp_eq h (tgt := 70) (by decide) dX1_burnt_31 (fun c2 => ?_) (fun c2 => ?_)
    · have hyp := hyp.1 c2
      refine cs_inc h (v := (1 : Int32)) 5 rfl (by decide) (by decide) rfl dX1_burnt_70 (fun v2 ev2 => ?_)
      have hyp := hyp v2 ev2
      show cr_V Γ 73 [.ref 169, .ref 27, .int x2, .int x3, .int x4, .int v2] [] I (cr_rf τ) 247
      refine cr_goto h (tgt := 19) (by decide) dX1_burnt_73 ?_
      exact cr_weak [true, true, true, true, true, true] hyp
    · have hyp := hyp.2 c2
      refine cr_aload_n h (j := 0) rfl rfl dX1_burnt_34 ?_
      refine cr_iload_n h (j := 2) rfl rfl dX1_burnt_35 ?_
      refine cr_iload h rfl dX1_burnt_36 ?_
      refine cr_iload_n h (j := 3) rfl rfl dX1_burnt_38 ?_
      refine cr_callV h (c0 := 1) (T0 := TX1) C_yX1_leavesWith cZ_yX1_leavesWith wm_X1_55 wv_yX1_leavesWith we_yX1_leavesWith (by decide) rfl rfl (cr_rmS (by decide) (by decide)) (As := [.int x2, .int x5, .int x3]) rfl (Nat.le_of_ble_eq_true rfl) dX1_burnt_39 ⟨τ, x2, x5, x3, rfl, hτ, rfl, hyp.1, ?_⟩
      have hyp := hyp.2
      show cr_V Γ 42 [.ref 169, .ref 27, .int x2, .int x3, .int x4, .int x5] [.int (f_yX1_leavesWith τ x2 x5 x3 I)] I (cr_rf τ) 247
      refine cr_if_eq h (tgt := 70) (by decide) dX1_burnt_42 (fun c3 => ?_) (fun c3 => ?_)
      · have hyp := hyp.1 c3
        refine cs_inc h (v := (1 : Int32)) 5 rfl (by decide) (by decide) rfl dX1_burnt_70 (fun v3 ev3 => ?_)
        have hyp := hyp v3 ev3
        show cr_V Γ 73 [.ref 169, .ref 27, .int x2, .int x3, .int x4, .int v3] [] I (cr_rf τ) 247
        refine cr_goto h (tgt := 19) (by decide) dX1_burnt_73 ?_
        exact cr_weak [true, true, true, true, true, true] hyp
      · have hyp := hyp.2 c3
        refine cr_aload_n h (j := 0) rfl rfl dX1_burnt_45 ?_
        refine cr_aload_n h (j := 1) rfl rfl dX1_burnt_46 ?_
        refine cr_iload h rfl dX1_burnt_47 ?_
        refine cr_iload_n h (j := 2) rfl rfl dX1_burnt_49 ?_
        refine cr_callV h (c0 := 1) (T0 := TX1) C_yX1_leads cZ_yX1_leads wm_X1_59 wv_yX1_leads we_yX1_leads (by decide) rfl rfl (cr_rmS (by decide) (by decide)) (As := [.ref 27, .int x5, .int x2]) rfl (Nat.le_of_ble_eq_true rfl) dX1_burnt_50 ⟨τ, x5, x2, rfl, hτ, rfl, hyp.1, ?_⟩
        have hyp := hyp.2
        show cr_V Γ 53 [.ref 169, .ref 27, .int x2, .int x3, .int x4, .int x5] [.int (f_yX1_leads τ x5 x2 I)] I (cr_rf τ) 247
        refine cr_if_eq h (tgt := 70) (by decide) dX1_burnt_53 (fun c4 => ?_) (fun c4 => ?_)
        · have hyp := hyp.1 c4
          refine cs_inc h (v := (1 : Int32)) 5 rfl (by decide) (by decide) rfl dX1_burnt_70 (fun v4 ev4 => ?_)
          have hyp := hyp v4 ev4
          show cr_V Γ 73 [.ref 169, .ref 27, .int x2, .int x3, .int x4, .int v4] [] I (cr_rf τ) 247
          refine cr_goto h (tgt := 19) (by decide) dX1_burnt_73 ?_
          exact cr_weak [true, true, true, true, true, true] hyp
        · have hyp := hyp.2 c4
          refine cr_iconst h (v := (1 : Int32)) (by decide) dX1_burnt_56 ?_
          refine cr_iload h rfl dX1_burnt_57 ?_
          refine cr_aload_n h (j := 1) rfl rfl dX1_burnt_59 ?_
          refine cr_getR h (k := 3) cr_clsX3 (by decide) rfl rfl wf_X1_37 (by decide) rfl rfl dX1_burnt_60 ?_
          refine cr_iconst h (v := (3 : Int32)) (by decide) dX1_burnt_63 ?_
          refine cs_ild h (by decide) rfl (by decide) (q := 3) (by decide) dX1_burnt_64 ?_
          refine cr_isub h dX1_burnt_65 ?_
          refine cr_callS h C_yJ9_max_7cf53 cZ_yJ9_max_7cf53 wm_X1_63 ws_yJ9_max_7cf53 (cr_rmS (by decide) (by decide)) (As := [.int (1 : Int32), .int (x4 - (I 130 3))]) rfl (Nat.le_of_ble_eq_true rfl) dX1_burnt_66 ⟨τ, (1 : Int32), (x4 - (I 130 3)), rfl, hτ, rfl, ?_⟩
          show cr_V Γ 69 [.ref 169, .ref 27, .int x2, .int x3, .int x4, .int x5] [.int (f_yJ9_max_7cf53 τ (1 : Int32) (x4 - (I 130 3)) I)] I (cr_rf τ) 247
          refine cr_iret h rfl rfl rfl dX1_burnt_69 ?_
          exact hyp
abbrev T_yX1_burnt : cr_T := fun vs I R K => ∃ (τ : Nat → Nat) (x2 : Int32) (x3 : Int32), R = cr_rf τ ∧ cr_tau τ ∧ vs = [.ref 169, .ref 27, .int x2, .int x3] ∧ p_yX1_burnt τ x2 x3 I ∧ K (some (.int (f_yX1_burnt τ x2 x3 I))) I (cr_rf τ)
abbrev S_yX1_burnt : Prop := cr_C yX1_burnt cX1_burnt 6 (some .int) (cr_rm0 1 25) 247 247 T_yX1_burnt
theorem G_yX1_burnt (H : ∀ (Γ : cr_G) (K : cr_K) (τ : Nat → Nat) (x2 : Int32) (x3 : Int32) (I : cr_I), cr_tau τ → cr_Ok yX1_burnt cX1_burnt 6 (some .int) (cr_rm0 1 25) K 247 247 Γ → p_yX1_burnt τ x2 x3 I → K (some (.int (f_yX1_burnt τ x2 x3 I))) I (cr_rf τ) → cr_V Γ 0 [.ref 169, .ref 27, .int x2, .int x3, .null, .null] [] I (cr_rf τ) 247) : cr_C yX1_burnt cX1_burnt 6 (some .int) (cr_rm0 1 25) 247 247 T_yX1_burnt := by
  refine cr_C.of (by decide +kernel) (fun vs I R K hT => ?_) (fun Γ K h vs I R hT => ?_)
  · obtain ⟨τ, x2, x3, rfl, hτ, rfl, hp, hK⟩ := hT
    exact Nat.le_of_ble_eq_true rfl
  · obtain ⟨τ, x2, x3, rfl, hτ, rfl, hp, hK⟩ := hT
    exact H Γ K τ x2 x3 I hτ h hp hK
theorem cr_ledS_t {fr to hr mw : Nat → Int32} {j k : Nat} {q : Int32} (h : cr_ledS fr to hr mw j q (k + 1) = true) : ∀ n, k + 1 ≤ n → cr_ledS fr to hr mw j q n = true := by
  intro n hn
  obtain ⟨m, rfl⟩ : ∃ m, n = k + 1 + m := ⟨n - (k + 1), by omega⟩
  clear hn
  induction m with
  | zero => exact h
  | succ m ih =>
    rw [show k + 1 + (m + 1) = (k + 1 + m) + 1 by omega, cr_ledS, ih, Bool.true_or]
theorem C_yX1_burnt : cr_C yX1_burnt cX1_burnt 6 (some .int) (cr_rm0 1 25) 247 247 T_yX1_burnt := G_yX1_burnt (by
  intro Γ K τ x2 x3 I hτ h hp hK
  obtain ⟨⟨hn, hn5, hw⟩, h1, h2⟩ := hp
  obtain ⟨eN, hN⟩ := cr_ofI (B := 5) hn.1 hn.2
  obtain ⟨eJ, hJ⟩ := cr_ofI (x := x2) (B := 5) h1 (by omega)
  have hjn : x2.toNatClampNeg < cr_jn I := by
    show x2.toInt.toNat < (I 169 0).toInt.toNat
    omega
  unfold f_yX1_burnt at hK
  have hwj := hw _ hjn
  have hx2 : (0 : Int) ≤ x2.toInt ∧ x2.toInt < 5 := by omega
  refine bk_yX1_burnt_0 hτ h ⟨hx2, hwj.2, ?_⟩
  rintro v1 rfl
  generalize hj : x2.toNatClampNeg = j at *
  have eN' : I 169 0 = nI (cr_jn I) := eN
  have hN' : cr_jn I ≤ 5 := hN
  refine cr_loop (fun k => cr_ledS (I 170) (I 171) (I 175) (cr_jmw I) j x3 k = false → cr_V Γ 19 [.ref 169, .ref 27, .int x2, .int x3, .int (I (29 + 25 * (I 174 j).toNatClampNeg) 0), .int (nI k)] [] I (cr_rf τ) 247) (cr_jn I) ?_ ?_ 0 (Nat.zero_le _) rfl
  · intro hS
    refine bk_yX1_burnt_19 hτ h ⟨fun _ => ?_, fun c => absurd ?_ c⟩
    · unfold cr_burnS at hK
      rw [hS] at hK
      exact hK
    · rw [eN']; exact Int32.le_refl _
  · intro k hk ih hS
    have hxk : (0 : Int) ≤ (nI k).toInt ∧ (nI k).toInt < 5 := cr_ix (by omega) (by omega)
    have hwk := hw k hk
    have hkj : nI k = x2 ↔ k = j := by
      rw [eJ]; exact nI_eq (by omega) (by omega)
    rw [cr_ledS, hS, Bool.false_or] at ih
    refine bk_yX1_burnt_19 hτ h ⟨fun c => absurd c ?_, fun _ => ⟨fun c => ?_, fun c => ?_⟩⟩
    · rw [eN']; exact cr_nle hk (by omega)
    · rintro v rfl
      rw [nI_1]
      refine ih ?_
      rw [decide_eq_false (show ¬ k ≠ j from fun q => q (hkj.mp c))]
      simp
    · have hne : k ≠ j := fun q => c (hkj.mpr q)
      have hlw : (f_yX1_leavesWith τ x2 (nI k) x3 I = 0) ↔ ¬ (((I 170 k).toInt ≤ x3.toInt ∧ x3.toInt < (I 171 k).toInt) ∧ I 175 k - I 170 k = I 175 j - I 170 j) := by
        unfold f_yX1_leavesWith
        rw [cr_nc (by omega), hj]
        by_cases q1 : x3 < I 170 k
        · rw [if_pos q1]; rw [cr_lt] at q1; exact ⟨fun _ z => by omega, fun _ => rfl⟩
        · rw [if_neg q1]; rw [cr_lt] at q1
          by_cases q2 : I 171 k ≤ x3
          · rw [if_pos q2]; rw [cr_le] at q2; exact ⟨fun _ z => by omega, fun _ => rfl⟩
          · rw [if_neg q2]; rw [cr_le] at q2
            by_cases q3 : I 175 k - I 170 k = I 175 j - I 170 j
            · rw [if_pos q3]; exact ⟨fun z => absurd z (by decide), fun z => absurd ⟨by omega, q3⟩ z⟩
            · rw [if_neg q3]; exact ⟨fun _ z => q3 z.2, fun _ => rfl⟩
      have hle : (f_yX1_leads τ (nI k) x2 I = 0) ↔ ¬ ((cr_jmw I j).toInt < (cr_jmw I k).toInt ∨ ((cr_jmw I k).toInt = (cr_jmw I j).toInt ∧ k < j)) := by
        have hl : x2 ≤ nI k ↔ j ≤ k := by rw [eJ]; exact nI_leI (by omega) (by omega)
        unfold f_yX1_leads
        rw [cr_nc (by omega), hj]
        show (if cr_jmw I j < cr_jmw I k then (1 : Int32) else if cr_jmw I k = cr_jmw I j then if x2 ≤ nI k then 0 else 1 else 0) = 0 ↔ _
        by_cases q1 : cr_jmw I j < cr_jmw I k
        · rw [if_pos q1]; rw [cr_lt] at q1; exact ⟨fun z => absurd z (by decide), fun z => absurd (Or.inl q1) z⟩
        · rw [if_neg q1]; rw [cr_lt] at q1
          by_cases q2 : cr_jmw I k = cr_jmw I j
          · rw [if_pos q2]
            by_cases q3 : x2 ≤ nI k
            · rw [if_pos q3]; rw [hl] at q3; exact ⟨fun _ z => by omega, fun _ => rfl⟩
            · rw [if_neg q3]; rw [hl] at q3; exact ⟨fun z => absurd z (by decide), fun z => absurd (Or.inr ⟨by rw [q2], by omega⟩) z⟩
          · rw [if_neg q2]; rw [cr_eq] at q2; exact ⟨fun _ z => by omega, fun _ => rfl⟩
      refine ⟨⟨hxk, fun _ => trivial, fun _ => ⟨hxk, fun _ => trivial, fun _ => ⟨hxk, hxk, hx2, hx2, fun _ => trivial, fun _ => trivial⟩⟩⟩, fun c1 => ?_, fun c1 => ⟨⟨hxk, by rw [cr_nc (by omega)]; exact hwk.2, fun _ _ => ⟨hx2, by rw [hj]; exact hwj.2, fun _ _ => ⟨fun _ => trivial, fun _ => ⟨fun _ => trivial, fun _ => ⟨fun _ => trivial, fun _ => trivial⟩⟩⟩⟩⟩, fun c2 => ?_, fun c2 => ?_⟩⟩
      · rintro v rfl
        rw [nI_1]
        refine ih ?_
        have := hlw.mp c1
        by_cases q : (I 170 k).toInt ≤ x3.toInt ∧ x3.toInt < (I 171 k).toInt
        · rw [decide_eq_false (show ¬ (I 175 k - I 170 k = I 175 j - I 170 j) from fun z => this ⟨q, z⟩)]
          simp
        · rw [decide_eq_false q]
          simp
      · rintro v rfl
        rw [nI_1]
        refine ih ?_
        rw [decide_eq_false (hle.mp c2)]
        simp
      · have q1 : ((I 170 k).toInt ≤ x3.toInt ∧ x3.toInt < (I 171 k).toInt) ∧ I 175 k - I 170 k = I 175 j - I 170 j := Classical.byContradiction fun z => c1 (hlw.mpr z)
        have q2 : (cr_jmw I j).toInt < (cr_jmw I k).toInt ∨ ((cr_jmw I k).toInt = (cr_jmw I j).toInt ∧ k < j) := Classical.byContradiction fun z => c2 (hle.mpr z)
        have ht : cr_ledS (I 170) (I 171) (I 175) (cr_jmw I) j x3 (k + 1) = true := by
          rw [cr_ledS, decide_eq_true hne, decide_eq_true q1.1, decide_eq_true q1.2, decide_eq_true q2]
          simp
        unfold cr_burnS at hK
        rw [cr_ledS_t ht _ (by omega)] at hK
        exact hK)
def f_yX1_cost (τ : Nat → Nat) (I : cr_I) : Int32 := cr_costS (cr_jn I) (I 170) (I 171) (I 172) (I 175) (cr_jmw I) (I 130 3) (I 130 4) (cr_jn I)
def p_yX1_cost (τ : Nat → Nat) (I : cr_I) : Prop := cr_jok I
theorem bk_yX1_cost_0 {Γ : cr_G} {K : cr_K} {τ : Nat → Nat} {I : cr_I}  (hτ : cr_tau τ)  (h : cr_Ok yX1_cost cX1_cost 5 (some .int) (cr_rm0 2 50) K 247 247 Γ) (hyp : cr_V Γ 4 [.ref 169, .ref 27, .int (0 : Int32), .int (0 : Int32), .null] [] I (cr_rf τ) 247) : cr_V Γ 0 [.ref 169, .ref 27, .null, .null, .null] [] I (cr_rf τ) 247 := by
  refine cr_iconst h (v := (0 : Int32)) (by decide) dX1_cost_0 ?_
  refine cr_istore_n h (j := 2) rfl (by decide) rfl dX1_cost_1 ?_
  show cr_V Γ 2 [.ref 169, .ref 27, .int (0 : Int32), .null, .null] [] I (cr_rf τ) 247
  refine cr_iconst h (v := (0 : Int32)) (by decide) dX1_cost_2 ?_
  refine cr_istore_n h (j := 3) rfl (by decide) rfl dX1_cost_3 ?_
  show cr_V Γ 4 [.ref 169, .ref 27, .int (0 : Int32), .int (0 : Int32), .null] [] I (cr_rf τ) 247
  exact cr_weak [true, true, true, true, false] hyp
theorem bk_yX1_cost_4 {Γ : cr_G} {K : cr_K} {τ : Nat → Nat} {I : cr_I} {x2 : Int32} {x3 : Int32} (hτ : cr_tau τ)  (h : cr_Ok yX1_cost cX1_cost 5 (some .int) (cr_rm0 2 50) K 247 247 Γ) (hyp : ((I 169 0) ≤ x3 → K (some (.int x2)) I (cr_rf τ)) ∧ (¬ (I 169 0) ≤ x3 → ((0 ≤ x3.toInt ∧ x3.toInt < 5) ∧ (0 ≤ x3.toInt ∧ x3.toInt < 5) ∧ (∀ v1 : Int32, v1 = (x2 + ((I 130 4) * ((I 175 x3.toNatClampNeg) - (I 172 x3.toNatClampNeg)))) → ((0 ≤ x3.toInt ∧ x3.toInt < 5) ∧ (∀ v2 : Int32, v2 = (I 170 x3.toNatClampNeg) → cr_V Γ 43 [.ref 169, .ref 27, .int v1, .int x3, .int v2] [] I (cr_rf τ) 247)))))) : cr_V Γ 4 [.ref 169, .ref 27, .int x2, .int x3, .null] [] I (cr_rf τ) 247 := by
  refine cr_iload_n h (j := 3) rfl rfl dX1_cost_4 ?_
  refine cr_aload_n h (j := 0) rfl rfl dX1_cost_5 ?_
  refine cr_getI h (k := 0) cr_clsX1 (by decide) rfl rfl wf_X1_9 (by decide) rfl dX1_cost_6 ?_
  refine cr_icmp_ge h (tgt := 77) (by decide) dX1_cost_9 (fun c1 => ?_) (fun c1 => ?_)
  · have hyp := hyp.1 c1
    refine cr_iload_n h (j := 2) rfl rfl dX1_cost_77 ?_
    refine cr_iret h rfl rfl rfl dX1_cost_78 ?_
    exact hyp
  · have hyp := hyp.2 c1
    refine cr_iload_n h (j := 2) rfl rfl dX1_cost_12 ?_
    refine cr_aload_n h (j := 1) rfl rfl dX1_cost_13 ?_
    refine cr_getR h (k := 3) cr_clsX3 (by decide) rfl rfl wf_X1_37 (by decide) rfl rfl dX1_cost_14 ?_
    refine cr_iconst h (v := (4 : Int32)) (by decide) dX1_cost_17 ?_
    refine cs_ild h (by decide) rfl (by decide) (q := 4) (by decide) dX1_cost_18 ?_
    refine cr_aload_n h (j := 0) rfl rfl dX1_cost_19 ?_
    refine cr_getR h (k := 6) cr_clsX1 (by decide) rfl rfl wf_X1_31 (by decide) rfl rfl dX1_cost_20 ?_
    refine cr_iload_n h (j := 3) rfl rfl dX1_cost_23 ?_
    refine cs_ild h (by decide) rfl hyp.1 (q := x3.toNatClampNeg) rfl dX1_cost_24 ?_
    have hyp := hyp.2
    refine cr_aload_n h (j := 0) rfl rfl dX1_cost_25 ?_
    refine cr_getR h (k := 3) cr_clsX1 (by decide) rfl rfl wf_X1_22 (by decide) rfl rfl dX1_cost_26 ?_
    refine cr_iload_n h (j := 3) rfl rfl dX1_cost_29 ?_
    refine cs_ild h (by decide) rfl hyp.1 (q := x3.toNatClampNeg) rfl dX1_cost_30 ?_
    have hyp := hyp.2
    refine cr_isub h dX1_cost_31 ?_
    refine cr_imul h dX1_cost_32 ?_
    refine cr_iadd h dX1_cost_33 ?_
    refine cs_i_n h 2 rfl (by decide) rfl dX1_cost_34 (fun v1 ev1 => ?_)
    have hyp := hyp v1 ev1
    show cr_V Γ 35 [.ref 169, .ref 27, .int v1, .int x3, .null] [] I (cr_rf τ) 247
    refine cr_aload_n h (j := 0) rfl rfl dX1_cost_35 ?_
    refine cr_getR h (k := 1) cr_clsX1 (by decide) rfl rfl wf_X1_15 (by decide) rfl rfl dX1_cost_36 ?_
    refine cr_iload_n h (j := 3) rfl rfl dX1_cost_39 ?_
    refine cs_ild h (by decide) rfl hyp.1 (q := x3.toNatClampNeg) rfl dX1_cost_40 ?_
    have hyp := hyp.2
    refine cs_i h 4 (by decide) rfl dX1_cost_41 (fun v2 ev2 => ?_)
    have hyp := hyp v2 ev2
    show cr_V Γ 43 [.ref 169, .ref 27, .int v1, .int x3, .int v2] [] I (cr_rf τ) 247
    exact cr_weak [true, true, true, true, true] hyp
theorem bk_yX1_cost_43 {Γ : cr_G} {K : cr_K} {τ : Nat → Nat} {I : cr_I} {x2 : Int32} {x3 : Int32} {x4 : Int32} (hτ : cr_tau τ)  (h : cr_Ok yX1_cost cX1_cost 5 (some .int) (cr_rm0 2 50) K 247 247 Γ) (hyp : (0 ≤ x3.toInt ∧ x3.toInt < 5) ∧ ((I 171 x3.toNatClampNeg) ≤ x4 → (∀ v3 : Int32, v3 = x3 + (1 : Int32) → cr_V Γ 4 [.ref 169, .ref 27, .int x2, .int v3, .null] [] I (cr_rf τ) 247)) ∧ (¬ (I 171 x3.toNatClampNeg) ≤ x4 → (p_yX1_burnt τ x3 x4 I ∧ (∀ v4 : Int32, v4 = (x2 + (f_yX1_burnt τ x3 x4 I)) → (∀ v5 : Int32, v5 = x4 + (1 : Int32) → cr_V Γ 43 [.ref 169, .ref 27, .int v4, .int x3, .int v5] [] I (cr_rf τ) 247))))) : cr_V Γ 43 [.ref 169, .ref 27, .int x2, .int x3, .int x4] [] I (cr_rf τ) 247 := by
  refine cr_iload h rfl dX1_cost_43 ?_
  refine cr_aload_n h (j := 0) rfl rfl dX1_cost_45 ?_
  refine cr_getR h (k := 2) cr_clsX1 (by decide) rfl rfl wf_X1_19 (by decide) rfl rfl dX1_cost_46 ?_
  refine cr_iload_n h (j := 3) rfl rfl dX1_cost_49 ?_
  refine cs_ild h (by decide) rfl hyp.1 (q := x3.toNatClampNeg) rfl dX1_cost_50 ?_
  have hyp := hyp.2
  refine cr_icmp_ge h (tgt := 71) (by decide) dX1_cost_51 (fun c2 => ?_) (fun c2 => ?_)
  · have hyp := hyp.1 c2
    refine cs_inc h (v := (1 : Int32)) 3 rfl (by decide) (by decide) rfl dX1_cost_71 (fun v3 ev3 => ?_)
    have hyp := hyp v3 ev3
    show cr_V Γ 74 [.ref 169, .ref 27, .int x2, .int v3, .int x4] [] I (cr_rf τ) 247
    refine cr_goto h (tgt := 4) (by decide) dX1_cost_74 ?_
    exact cr_weak [true, true, true, true, false] hyp
  · have hyp := hyp.2 c2
    refine cr_iload_n h (j := 2) rfl rfl dX1_cost_54 ?_
    refine cr_aload_n h (j := 0) rfl rfl dX1_cost_55 ?_
    refine cr_aload_n h (j := 1) rfl rfl dX1_cost_56 ?_
    refine cr_iload_n h (j := 3) rfl rfl dX1_cost_57 ?_
    refine cr_iload h rfl dX1_cost_58 ?_
    refine cr_callV h (c0 := 1) (T0 := TX1) C_yX1_burnt cZ_yX1_burnt wm_X1_42 wv_yX1_burnt we_yX1_burnt (by decide) rfl rfl (cr_rmS (by decide) (by decide)) (As := [.ref 27, .int x3, .int x4]) rfl (Nat.le_of_ble_eq_true rfl) dX1_cost_60 ⟨τ, x3, x4, rfl, hτ, rfl, hyp.1, ?_⟩
    have hyp := hyp.2
    show cr_V Γ 63 [.ref 169, .ref 27, .int x2, .int x3, .int x4] [.int (f_yX1_burnt τ x3 x4 I), .int x2] I (cr_rf τ) 247
    refine cr_iadd h dX1_cost_63 ?_
    refine cs_i_n h 2 rfl (by decide) rfl dX1_cost_64 (fun v4 ev4 => ?_)
    have hyp := hyp v4 ev4
    show cr_V Γ 65 [.ref 169, .ref 27, .int v4, .int x3, .int x4] [] I (cr_rf τ) 247
    refine cs_inc h (v := (1 : Int32)) 4 rfl (by decide) (by decide) rfl dX1_cost_65 (fun v5 ev5 => ?_)
    have hyp := hyp v5 ev5
    show cr_V Γ 68 [.ref 169, .ref 27, .int v4, .int x3, .int v5] [] I (cr_rf τ) 247
    refine cr_goto h (tgt := 43) (by decide) dX1_cost_68 ?_
    exact cr_weak [true, true, true, true, true] hyp
abbrev T_yX1_cost : cr_T := fun vs I R K => ∃ (τ : Nat → Nat), R = cr_rf τ ∧ cr_tau τ ∧ vs = [.ref 169, .ref 27] ∧ p_yX1_cost τ I ∧ K (some (.int (f_yX1_cost τ I))) I (cr_rf τ)
abbrev S_yX1_cost : Prop := cr_C yX1_cost cX1_cost 5 (some .int) (cr_rm0 2 50) 247 247 T_yX1_cost
theorem G_yX1_cost (H : ∀ (Γ : cr_G) (K : cr_K) (τ : Nat → Nat) (I : cr_I), cr_tau τ → cr_Ok yX1_cost cX1_cost 5 (some .int) (cr_rm0 2 50) K 247 247 Γ → p_yX1_cost τ I → K (some (.int (f_yX1_cost τ I))) I (cr_rf τ) → cr_V Γ 0 [.ref 169, .ref 27, .null, .null, .null] [] I (cr_rf τ) 247) : cr_C yX1_cost cX1_cost 5 (some .int) (cr_rm0 2 50) 247 247 T_yX1_cost := by
  refine cr_C.of (by decide +kernel) (fun vs I R K hT => ?_) (fun Γ K h vs I R hT => ?_)
  · obtain ⟨τ, rfl, hτ, rfl, hp, hK⟩ := hT
    exact Nat.le_of_ble_eq_true rfl
  · obtain ⟨τ, rfl, hτ, rfl, hp, hK⟩ := hT
    exact H Γ K τ I hτ h hp hK
theorem C_yX1_cost : cr_C yX1_cost cX1_cost 5 (some .int) (cr_rm0 2 50) 247 247 T_yX1_cost := G_yX1_cost (by
  intro Γ K τ I hτ h hp hK
  have hjo := hp
  obtain ⟨hn, hn5, hw⟩ := hp
  obtain ⟨eN, hN⟩ := cr_ofI (B := 5) hn.1 hn.2
  have eN' : I 169 0 = nI (cr_jn I) := eN
  have hN' : cr_jn I ≤ 5 := hN
  unfold f_yX1_cost at hK
  refine bk_yX1_cost_0 hτ h ?_
  refine cr_loop (fun j => cr_V Γ 4 [.ref 169, .ref 27, .int (cr_costS (cr_jn I) (I 170) (I 171) (I 172) (I 175) (cr_jmw I) (I 130 3) (I 130 4) j), .int (nI j), .null] [] I (cr_rf τ) 247) (cr_jn I) ?_ ?_ 0 (Nat.zero_le _)
  · refine bk_yX1_cost_4 hτ h ⟨fun _ => hK, fun c => absurd ?_ c⟩
    rw [eN']; exact Int32.le_refl _
  · intro j hj ih
    have hxj : (0 : Int) ≤ (nI j).toInt ∧ (nI j).toInt < 5 := cr_ix (by omega) (by omega)
    have hwj := hw j hj
    refine bk_yX1_cost_4 hτ h ⟨fun c => absurd c ?_, fun _ => ⟨hxj, hxj, ?_⟩⟩
    · rw [eN']; exact cr_nle hj (by omega)
    · rw [cr_nc (by omega)]
      rintro v1 rfl
      refine ⟨hxj, ?_⟩
      rintro v2 rfl
      have hv2 : I 170 j = I 170 j + nI 0 := by rw [nI_0, Int32.add_zero]
      have hv1 : ∀ z : Int32, z = z + cr_rowS (cr_jn I) (I 170) (I 171) (I 175) (cr_jmw I) (I 130 3) j 0 := fun z => by rw [cr_rowS, Int32.add_zero]
      rw [hv1 (_ + _)]
      conv => arg 3; rw [hv2]
      refine cr_loop (fun m => cr_V Γ 43 [.ref 169, .ref 27, .int (cr_costS (cr_jn I) (I 170) (I 171) (I 172) (I 175) (cr_jmw I) (I 130 3) (I 130 4) j + I 130 4 * (I 175 j - I 172 j) + cr_rowS (cr_jn I) (I 170) (I 171) (I 175) (cr_jmw I) (I 130 3) j m), .int (nI j), .int (I 170 j + nI m)] [] I (cr_rf τ) 247) ((I 171 j).toInt - (I 170 j).toInt).toNat ?_ ?_ 0 (Nat.zero_le _)
      · have eq : I 170 j + nI ((I 171 j).toInt - (I 170 j).toInt).toNat = I 171 j := by
          apply Int32.toInt_inj.mp
          rw [cr_add (by rw [cr_nt (by omega)]; omega), cr_nt (by omega)]
          omega
        rw [eq]
        refine bk_yX1_cost_43 hτ h ⟨hxj, fun _ => ?_, fun c => absurd ?_ c⟩
        · rintro v rfl
          rw [nI_1]
          rw [cr_costS, ← Int32.add_assoc] at ih
          exact ih
        · rw [cr_nc (by omega)]; exact Int32.le_refl _
      · intro m hm ihm
        have em : (I 170 j + nI m).toInt = (I 170 j).toInt + m := by
          rw [cr_add (by rw [cr_nt (by omega)]; omega), cr_nt (by omega)]
        refine bk_yX1_cost_43 hτ h ⟨hxj, fun c => absurd c ?_, fun _ => ⟨⟨hjo, hxj.1, ?_⟩, ?_⟩⟩
        · rw [cr_nc (by omega), cr_le, em]; omega
        · rw [cr_nt (by omega)]
          have : (cr_jn I : Int) = (I 169 0).toInt := by
            show (((I 169 0).toInt.toNat : Nat) : Int) = _
            omega
          omega
        · rintro v rfl w rfl
          unfold f_yX1_burnt
          rw [cr_nc (by omega), Int32.add_assoc (I 170 j) (nI m) 1, nI_1]
          rw [cr_rowS, ← Int32.add_assoc] at ihm
          exact ihm)
