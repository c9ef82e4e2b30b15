/-! the reference's journeys -/
def cr_mjn (I : cr_I) : Nat := (I 200 34).toNatClampNeg
def cr_mjmw (I : cr_I) (j : Nat) : Int32 := I 201 (I 225 j).toNatClampNeg
def cr_mjok (I : cr_I) : Prop := ((0 ≤ (I 200 34).toInt ∧ (I 200 34).toInt ≤ 5) ∧ cr_jw (cr_mjn I) (I 221) (I 222) (I 225)) ∧ ∀ m, m < 4 → 1 ≤ (I 201 m).toInt ∧ (I 201 m).toInt ≤ 40
def cr_ledM (fr to hr mw : Nat → Int32) (j : Nat) (q hour : Int32) : Nat → Bool
  | 0 => false
  | k + 1 => cr_ledM fr to hr mw j q hour k || (decide (k ≠ j) && decide ((fr k).toInt ≤ q.toInt ∧ q.toInt < (to k).toInt) && decide ((hr k + q) - fr k = hour) && decide ((mw j).toInt < (mw k).toInt ∨ ((mw k).toInt = (mw j).toInt ∧ k < j)))
theorem cr_cancel {a b c : Int32} (h : a + b = c + b) : a = c := by
  have e : ∀ z : Int32, (z + b) + -b = z := fun z => by rw [Int32.add_assoc, Int32.add_right_neg, Int32.add_zero]
  rw [← e a, h, e]
theorem cr_ledM_eq {fr to hr mw : Nat → Int32} {j : Nat} {q : Int32} : ∀ n, cr_ledM fr to hr mw j q ((hr j + q) - fr j) n = cr_ledS fr to hr mw j q n
  | 0 => rfl
  | n + 1 => by
    rw [cr_ledM, cr_ledS, cr_ledM_eq n]
    have e : ((hr n + q) - fr n = (hr j + q) - fr j) ↔ (hr n - fr n = hr j - fr j) := by
      have sw : ∀ a b c : Int32, (a + b) - c = (a - c) + b := fun a b c => by
        rw [Int32.sub_eq_add_neg, Int32.sub_eq_add_neg, Int32.add_assoc, Int32.add_assoc, Int32.add_comm b]
      rw [sw, sw]
      exact ⟨fun h => cr_cancel h, fun h => by rw [h]⟩
    simp only [e]

def f_yX9_goes (τ : Nat → Nat) (x1 : Int32) (x2 : Int32) (x3 : Int32) (I : cr_I) : Int32 := if (f_yX9_in τ x2.toInt64 ((I 221 x1.toNatClampNeg).toInt64) (((I 222 x1.toNatClampNeg) - (1 : Int32)).toInt64) I) = 0 then (0 : Int32) else if (((I 243 x1.toNatClampNeg) + x2) - (I 221 x1.toNatClampNeg)) = x3 then (1 : Int32) else (0 : Int32)
def p_yX9_goes (τ : Nat → Nat) (x1 : Int32) (x2 : Int32) (x3 : Int32) (I : cr_I) : Prop := (0 ≤ x1.toInt ∧ x1.toInt < 5) ∧ (0 ≤ x1.toInt ∧ x1.toInt < 5) ∧ ((f_yX9_in τ x2.toInt64 ((I 221 x1.toNatClampNeg).toInt64) (((I 222 x1.toNatClampNeg) - (1 : Int32)).toInt64) I) = 0 → True) ∧ (¬ (f_yX9_in τ x2.toInt64 ((I 221 x1.toNatClampNeg).toInt64) (((I 222 x1.toNatClampNeg) - (1 : Int32)).toInt64) I) = 0 → ((0 ≤ x1.toInt ∧ x1.toInt < 5) ∧ (0 ≤ x1.toInt ∧ x1.toInt < 5) ∧ (¬ (((I 243 x1.toNatClampNeg) + x2) - (I 221 x1.toNatClampNeg)) = x3 → True) ∧ ((((I 243 x1.toNatClampNeg) + x2) - (I 221 x1.toNatClampNeg)) = x3 → True)))
abbrev T_yX9_goes : cr_T := fun vs I R K => ∃ (τ : Nat → Nat) (x1 : Int32) (x2 : Int32) (x3 : Int32), R = cr_rf τ ∧ cr_tau τ ∧ vs = [.ref 200, .int x1, .int x2, .int x3] ∧ p_yX9_goes τ x1 x2 x3 I ∧ K (some (.int (f_yX9_goes τ x1 x2 x3 I))) I (cr_rf τ)
theorem C_yX9_goes : cr_C yX9_goes cX9_goes 4 (some .boolean) (cr_rm0 1 25) 247 247 T_yX9_goes := by
  refine cr_C.of (by decide +kernel) (fun vs I R K hT => ?_) (fun Γ K h vs I R hT => ?_)
  · obtain ⟨τ, x1, x2, x3, rfl, hτ, rfl, hyp, hK⟩ := hT
    exact Nat.le_of_ble_eq_true rfl
  · obtain ⟨τ, x1, x2, x3, rfl, hτ, rfl, hyp, hK⟩ := hT
    show cr_V Γ 0 [.ref 200, .int x1, .int x2, .int x3] [] I (cr_rf τ) 247
    refine cr_iload_n h (j := 2) rfl rfl dX9_goes_0 ?_
    refine cr_i2l h dX9_goes_1 ?_
    refine cr_aload_n h (j := 0) rfl rfl dX9_goes_2 ?_
    refine cr_getR h (k := 29) cr_clsX9 (by decide) rfl rfl wf_X9_74 (by decide) rfl rfl dX9_goes_3 ?_
    refine cr_iload_n h (j := 1) rfl rfl dX9_goes_6 ?_
    refine cs_ild h (by decide) rfl hyp.1 (q := x1.toNatClampNeg) rfl dX9_goes_7 ?_
    have hyp := hyp.2
    refine cr_i2l h dX9_goes_8 ?_
    refine cr_aload_n h (j := 0) rfl rfl dX9_goes_9 ?_
    refine cr_getR h (k := 30) cr_clsX9 (by decide) rfl rfl wf_X9_77 (by decide) rfl rfl dX9_goes_10 ?_
    refine cr_iload_n h (j := 1) rfl rfl dX9_goes_13 ?_
    refine cs_ild h (by decide) rfl hyp.1 (q := x1.toNatClampNeg) rfl dX9_goes_14 ?_
    have hyp := hyp.2
    refine cr_iconst h (v := (1 : Int32)) (by decide) dX9_goes_15 ?_
    refine cr_isub h dX9_goes_16 ?_
    refine cr_i2l h dX9_goes_17 ?_
    refine cr_callS h C_yX9_in cZ_yX9_in wm_X9_154 ws_yX9_in (cr_rmS (by decide) (by decide)) (As := [.long x2.toInt64, .long (I 221 x1.toNatClampNeg).toInt64, .long ((I 222 x1.toNatClampNeg) - (1 : Int32)).toInt64]) rfl (Nat.le_of_ble_eq_true rfl) dX9_goes_18 ⟨τ, x2.toInt64, (I 221 x1.toNatClampNeg).toInt64, ((I 222 x1.toNatClampNeg) - (1 : Int32)).toInt64, rfl, hτ, rfl, ?_⟩
    show cr_V Γ 21 [.ref 200, .int x1, .int x2, .int x3] [.int (f_yX9_in τ x2.toInt64 ((I 221 x1.toNatClampNeg).toInt64) (((I 222 x1.toNatClampNeg) - (1 : Int32)).toInt64) I)] I (cr_rf τ) 247
    refine cr_if_eq h (tgt := 47) (by decide) dX9_goes_21 (fun c1 => ?_) (fun c1 => ?_)
    · have hyp := hyp.1 c1
      refine cr_iconst h (v := (0 : Int32)) (by decide) dX9_goes_47 ?_
      refine cr_iret h rfl (by decide) rfl dX9_goes_48 ?_
      rw [f_yX9_goes, if_pos c1] at hK
      exact hK
    · have hyp := hyp.2 c1
      refine cr_aload_n h (j := 0) rfl rfl dX9_goes_24 ?_
      refine cr_getR h (k := 61) cr_clsX9 (by decide) rfl rfl wf_X9_140 (by decide) rfl rfl dX9_goes_25 ?_
      refine cr_iload_n h (j := 1) rfl rfl dX9_goes_28 ?_
      refine cs_ild h (by decide) rfl hyp.1 (q := x1.toNatClampNeg) rfl dX9_goes_29 ?_
      have hyp := hyp.2
      refine cr_iload_n h (j := 2) rfl rfl dX9_goes_30 ?_
      refine cr_iadd h dX9_goes_31 ?_
      refine cr_aload_n h (j := 0) rfl rfl dX9_goes_32 ?_
      refine cr_getR h (k := 29) cr_clsX9 (by decide) rfl rfl wf_X9_74 (by decide) rfl rfl dX9_goes_33 ?_
      refine cr_iload_n h (j := 1) rfl rfl dX9_goes_36 ?_
      refine cs_ild h (by decide) rfl hyp.1 (q := x1.toNatClampNeg) rfl dX9_goes_37 ?_
      have hyp := hyp.2
      refine cr_isub h dX9_goes_38 ?_
      refine cr_iload_n h (j := 3) rfl rfl dX9_goes_39 ?_
      refine cr_icmp_ne h (tgt := 47) (by decide) dX9_goes_40 (fun c2 => ?_) (fun c2 => ?_)
      · have hyp := hyp.1 c2
        refine cr_iconst h (v := (0 : Int32)) (by decide) dX9_goes_47 ?_
        refine cr_iret h rfl (by decide) rfl dX9_goes_48 ?_
        rw [f_yX9_goes, if_neg c1, if_neg c2] at hK
        exact hK
      · have hyp := hyp.2 c2
        refine cr_iconst h (v := (1 : Int32)) (by decide) dX9_goes_43 ?_
        refine cr_goto h (tgt := 48) (by decide) dX9_goes_44 ?_
        refine cr_iret h rfl (by decide) rfl dX9_goes_48 ?_
        rw [f_yX9_goes, if_neg c1, if_pos c2] at hK
        exact hK
theorem nb_yX9_goes {τ : Nat → Nat} {x1 : Int32} {x2 : Int32} {x3 : Int32} {I : cr_I} : narrow .boolean (.int (f_yX9_goes τ x1 x2 x3 I)) = .int (f_yX9_goes τ x1 x2 x3 I) := by
  unfold f_yX9_goes
  first | (repeat' split) <;> first | rfl | (exact nb_yX9_in)
def f_yX9_leads (τ : Nat → Nat) (x1 x2 x3 : Int32) (I : cr_I) : Int32 := if cr_ledM (I 221) (I 222) (I 243) (cr_mjmw I) x1.toNatClampNeg x2 x3 (cr_mjn I) then 0 else 1
def p_yX9_leads (τ : Nat → Nat) (x1 x2 x3 : Int32) (I : cr_I) : Prop := cr_mjok I ∧ 0 ≤ x1.toInt ∧ x1.toInt < (I 200 34).toInt
theorem bk_yX9_leads_0 {Γ : cr_G} {K : cr_K} {τ : Nat → Nat} {I : cr_I} {x1 : Int32} {x2 : Int32} {x3 : Int32} (hτ : cr_tau τ)  (h : cr_Ok yX9_leads cX9_leads 7 (some .boolean) (cr_rm0 2 48) K 247 247 Γ) (hyp : cr_V Γ 6 [.ref 200, .int x1, .int x2, .int x3, .int (1 : Int32), .int (0 : Int32), .null] [] I (cr_rf τ) 247) : cr_V Γ 0 [.ref 200, .int x1, .int x2, .int x3, .null, .null, .null] [] I (cr_rf τ) 247 := by
  refine cr_iconst h (v := (1 : Int32)) (by decide) dX9_leads_0 ?_
  refine cr_istore h (by decide) rfl dX9_leads_1 ?_
  show cr_V Γ 3 [.ref 200, .int x1, .int x2, .int x3, .int (1 : Int32), .null, .null] [] I (cr_rf τ) 247
  refine cr_iconst h (v := (0 : Int32)) (by decide) dX9_leads_3 ?_
  refine cr_istore h (by decide) rfl dX9_leads_4 ?_
  show cr_V Γ 6 [.ref 200, .int x1, .int x2, .int x3, .int (1 : Int32), .int (0 : Int32), .null] [] I (cr_rf τ) 247
  exact cr_weak [true, true, true, true, true, true, false] hyp
theorem bk_yX9_leads_6 {Γ : cr_G} {K : cr_K} {τ : Nat → Nat} {I : cr_I} {x1 : Int32} {x2 : Int32} {x3 : Int32} {x4 : Int32} {x5 : Int32} (hτ : cr_tau τ)  (h : cr_Ok yX9_leads cX9_leads 7 (some .boolean) (cr_rm0 2 48) K 247 247 Γ) (hyp : ((I 200 34) ≤ x5 → ((x4 = 0 ∨ x4 = 1) ∧ K (some (.int x4)) I (cr_rf τ))) ∧ (¬ (I 200 34) ≤ x5 → ((0 ≤ x5.toInt ∧ x5.toInt < 5) ∧ (0 ≤ (I 225 x5.toNatClampNeg).toInt ∧ (I 225 x5.toNatClampNeg).toInt < 4) ∧ (0 ≤ x1.toInt ∧ x1.toInt < 5) ∧ (0 ≤ (I 225 x1.toNatClampNeg).toInt ∧ (I 225 x1.toNatClampNeg).toInt < 4) ∧ (∀ v1 : Int32, v1 = ((I 201 (I 225 x5.toNatClampNeg).toNatClampNeg) - (I 201 (I 225 x1.toNatClampNeg).toNatClampNeg)) → ((x4 = 0 → True) ∧ (¬ x4 = 0 → ((x5 = x1 → True) ∧ (¬ x5 = x1 → (p_yX9_goes τ x5 x2 x3 I ∧ True)))) ∧ (∀ v2 : Int32, v2 = (if x4 = 0 then (0 : Int32) else (if x5 = x1 then (1 : Int32) else (if (f_yX9_goes τ x5 x2 x3 I) = 0 then (1 : Int32) else (if 0 < v1 then (0 : Int32) else (if v1 = 0 then (if x5 < x1 then (0 : Int32) else (1 : Int32)) else (1 : Int32)))))) → (∀ v3 : Int32, v3 = x5 + (1 : Int32) → cr_V Γ 6 [.ref 200, .int x1, .int x2, .int x3, .int v2, .int v3, .null] [] I (cr_rf τ) 247))))))) : cr_V Γ 6 [.ref 200, .int x1, .int x2, .int x3, .int x4, .int x5, .null] [] I (cr_rf τ) 247 := by
  refine cr_iload h rfl dX9_leads_6 ?_
  refine cr_aload_n h (j := 0) rfl rfl dX9_leads_8 ?_
  refine cr_getI h (k := 34) cr_clsX9 (by decide) rfl rfl wf_X9_340 (by decide) rfl dX9_leads_9 ?_
  refine cr_icmp_ge h (tgt := 92) (by decide) dX9_leads_12 (fun c1 => ?_) (fun c1 => ?_)
  · have hyp := hyp.1 c1
    refine cr_iload h rfl dX9_leads_92 ?_
    refine cr_iret h rfl (nb_of hyp.1) rfl dX9_leads_94 ?_
    have hyp := hyp.2
    exact hyp
  · have hyp := hyp.2 c1
    refine cr_aload_n h (j := 0) rfl rfl dX9_leads_15 ?_
    refine cr_getR h (k := 0) cr_clsX9 (by decide) rfl rfl wf_X9_7 (by decide) rfl rfl dX9_leads_16 ?_
    refine cr_aload_n h (j := 0) rfl rfl dX9_leads_19 ?_
    refine cr_getR h (k := 33) cr_clsX9 (by decide) rfl rfl wf_X9_86 (by decide) rfl rfl dX9_leads_20 ?_
    refine cr_iload h rfl dX9_leads_23 ?_
    refine cs_ild h (by decide) rfl hyp.1 (q := x5.toNatClampNeg) rfl dX9_leads_25 ?_
    have hyp := hyp.2
    refine cs_ild h (by decide) rfl hyp.1 (q := (I 225 x5.toNatClampNeg).toNatClampNeg) rfl dX9_leads_26 ?_
    have hyp := hyp.2
    refine cr_aload_n h (j := 0) rfl rfl dX9_leads_27 ?_
    refine cr_getR h (k := 0) cr_clsX9 (by decide) rfl rfl wf_X9_7 (by decide) rfl rfl dX9_leads_28 ?_
    refine cr_aload_n h (j := 0) rfl rfl dX9_leads_31 ?_
    refine cr_getR h (k := 33) cr_clsX9 (by decide) rfl rfl wf_X9_86 (by decide) rfl rfl dX9_leads_32 ?_
    refine cr_iload_n h (j := 1) rfl rfl dX9_leads_35 ?_
    refine cs_ild h (by decide) rfl hyp.1 (q := x1.toNatClampNeg) rfl dX9_leads_36 ?_
    have hyp := hyp.2
    refine cs_ild h (by decide) rfl hyp.1 (q := (I 225 x1.toNatClampNeg).toNatClampNeg) rfl dX9_leads_37 ?_
    have hyp := hyp.2
    refine cr_isub h dX9_leads_38 ?_
    refine cs_i h 6 (by decide) rfl dX9_leads_39 (fun v1 ev1 => ?_)
    have hyp := hyp v1 ev1
    show cr_V Γ 41 [.ref 200, .int x1, .int x2, .int x3, .int x4, .int x5, .int v1] [] I (cr_rf τ) 247
    refine cr_iload h rfl dX9_leads_41 ?_
    have hsJ1 := hyp.1
    have htJ1 := hyp.2.1
    have hyp := hyp.2.2
    have J1 : cr_V Γ 84 [.ref 200, .int x1, .int x2, .int x3, .int x4, .int x5, .int v1] [.int (if x4 = 0 then (0 : Int32) else (if x5 = x1 then (1 : Int32) else (if (f_yX9_goes τ x5 x2 x3 I) = 0 then (1 : Int32) else (if 0 < v1 then (0 : Int32) else (if v1 = 0 then (if x5 < x1 then (0 : Int32) else (1 : Int32)) else (1 : Int32))))))] I (cr_rf τ) 247 := by
      refine cs_i h 4 (by decide) rfl dX9_leads_84 (fun v2 ev2 => ?_)
      have hyp := hyp v2 ev2
      show cr_V Γ 86 [.ref 200, .int x1, .int x2, .int x3, .int v2, .int x5, .int v1] [] I (cr_rf τ) 247
      refine cs_inc h (v := (1 : Int32)) 5 rfl (by decide) (by decide) rfl dX9_leads_86 (fun v3 ev3 => ?_)
      have hyp := hyp v3 ev3
      show cr_V Γ 89 [.ref 200, .int x1, .int x2, .int x3, .int v2, .int v3, .int v1] [] I (cr_rf τ) 247
      refine cr_goto h (tgt := 6) (by decide) dX9_leads_89 ?_
      exact cr_weak [true, true, true, true, true, true, false] hyp
    refine cr_if_eq h (tgt := 83) (by decide) dX9_leads_43 (fun c2 => ?_) (fun c2 => ?_)
    · refine cr_iconst h (v := (0 : Int32)) (by decide) dX9_leads_83 ?_
      exact cr_ite (by rw [if_pos c2]) J1
    · have hyp := htJ1 c2
      refine cr_iload h rfl dX9_leads_46 ?_
      refine cr_iload_n h (j := 1) rfl rfl dX9_leads_48 ?_
      refine cr_icmp_eq h (tgt := 79) (by decide) dX9_leads_49 (fun c3 => ?_) (fun c3 => ?_)
      · have hyp := hyp.1 c3
        refine cr_iconst h (v := (1 : Int32)) (by decide) dX9_leads_79 ?_
        refine cr_goto h (tgt := 84) (by decide) dX9_leads_80 ?_
        exact cr_ite (by rw [if_neg c2, if_pos c3]) J1
      · have hyp := hyp.2 c3
        refine cr_aload_n h (j := 0) rfl rfl dX9_leads_52 ?_
        refine cr_iload h rfl dX9_leads_53 ?_
        refine cr_iload_n h (j := 2) rfl rfl dX9_leads_55 ?_
        refine cr_iload_n h (j := 3) rfl rfl dX9_leads_56 ?_
        refine cr_callV h (c0 := 9) (T0 := TX9) C_yX9_goes cZ_yX9_goes wm_X9_343 wv_yX9_goes we_yX9_goes (by decide) rfl rfl (cr_rmS (by decide) (by decide)) (As := [.int x5, .int x2, .int x3]) rfl (Nat.le_of_ble_eq_true rfl) dX9_leads_57 ⟨τ, x5, x2, x3, rfl, hτ, rfl, hyp.1, ?_⟩
        have hyp := hyp.2
        show cr_V Γ 60 [.ref 200, .int x1, .int x2, .int x3, .int x4, .int x5, .int v1] [.int (f_yX9_goes τ x5 x2 x3 I)] I (cr_rf τ) 247
        refine cr_if_eq h (tgt := 79) (by decide) dX9_leads_60 (fun c4 => ?_) (fun c4 => ?_)
        · refine cr_iconst h (v := (1 : Int32)) (by decide) dX9_leads_79 ?_
          refine cr_goto h (tgt := 84) (by decide) dX9_leads_80 ?_
          exact cr_ite (by rw [if_neg c2, if_neg c3, if_pos c4]) J1
        · refine cr_iload h rfl dX9_leads_63 ?_
          refine cr_if_gt h (tgt := 83) (by decide) dX9_leads_65 (fun c5 => ?_) (fun c5 => ?_)
          · refine cr_iconst h (v := (0 : Int32)) (by decide) dX9_leads_83 ?_
            exact cr_ite (by rw [if_neg c2, if_neg c3, if_neg c4, if_pos c5]) J1
          · refine cr_iload h rfl dX9_leads_68 ?_
            refine cr_if_ne h (tgt := 79) (by decide) dX9_leads_70 (fun c6 => ?_) (fun c6 => ?_)
            · refine cr_iconst h (v := (1 : Int32)) (by decide) dX9_leads_79 ?_
              refine cr_goto h (tgt := 84) (by decide) dX9_leads_80 ?_
              exact cr_ite (by rw [if_neg c2, if_neg c3, if_neg c4, if_neg c5, if_neg c6]) J1
            · refine cr_iload h rfl dX9_leads_73 ?_
              refine cr_iload_n h (j := 1) rfl rfl dX9_leads_75 ?_
              refine cr_icmp_lt h (tgt := 83) (by decide) dX9_leads_76 (fun c7 => ?_) (fun c7 => ?_)
              · refine cr_iconst h (v := (0 : Int32)) (by decide) dX9_leads_83 ?_
                exact cr_ite (by rw [if_neg c2, if_neg c3, if_neg c4, if_neg c5, if_pos c6, if_pos c7]) J1
              · refine cr_iconst h (v := (1 : Int32)) (by decide) dX9_leads_79 ?_
                refine cr_goto h (tgt := 84) (by decide) dX9_leads_80 ?_
                exact cr_ite (by rw [if_neg c2, if_neg c3, if_neg c4, if_neg c5, if_pos c6, if_neg c7]) J1
abbrev T_yX9_leads : cr_T := fun vs I R K => ∃ (τ : Nat → Nat) (x1 : Int32) (x2 : Int32) (x3 : Int32), R = cr_rf τ ∧ cr_tau τ ∧ vs = [.ref 200, .int x1, .int x2, .int x3] ∧ p_yX9_leads τ x1 x2 x3 I ∧ K (some (.int (f_yX9_leads τ x1 x2 x3 I))) I (cr_rf τ)
abbrev S_yX9_leads : Prop := cr_C yX9_leads cX9_leads 7 (some .boolean) (cr_rm0 2 48) 247 247 T_yX9_leads
theorem G_yX9_leads (H : ∀ (Γ : cr_G) (K : cr_K) (τ : Nat → Nat) (x1 : Int32) (x2 : Int32) (x3 : Int32) (I : cr_I), cr_tau τ → cr_Ok yX9_leads cX9_leads 7 (some .boolean) (cr_rm0 2 48) K 247 247 Γ → p_yX9_leads τ x1 x2 x3 I → K (some (.int (f_yX9_leads τ x1 x2 x3 I))) I (cr_rf τ) → cr_V Γ 0 [.ref 200, .int x1, .int x2, .int x3, .null, .null, .null] [] I (cr_rf τ) 247) : cr_C yX9_leads cX9_leads 7 (some .boolean) (cr_rm0 2 48) 247 247 T_yX9_leads := by
  refine cr_C.of (by decide +kernel) (fun vs I R K hT => ?_) (fun Γ K h vs I R hT => ?_)
  · obtain ⟨τ, x1, x2, x3, rfl, hτ, rfl, hp, hK⟩ := hT
    exact Nat.le_of_ble_eq_true rfl
  · obtain ⟨τ, x1, x2, x3, rfl, hτ, rfl, hp, hK⟩ := hT
    exact H Γ K τ x1 x2 x3 I hτ h hp hK
theorem C_yX9_leads : S_yX9_leads := G_yX9_leads (by
  intro Γ K τ x1 x2 x3 I hτ h hp hK
  obtain ⟨⟨⟨hn, hn5, hw⟩, hwt⟩, h1, h2⟩ := hp
  obtain ⟨eN, hN⟩ := cr_ofI (B := 5) hn.1 hn.2
  obtain ⟨eJ, hJ⟩ := cr_ofI (x := x1) (B := 5) h1 (by omega)
  have hjn : x1.toNatClampNeg < cr_mjn I := by
    show x1.toInt.toNat < (I 200 34).toInt.toNat
    omega
  unfold f_yX9_leads at hK
  have hwj := hw _ hjn
  have hx1 : (0 : Int) ≤ x1.toInt ∧ x1.toInt < 5 := by omega
  generalize hj : x1.toNatClampNeg = j at *
  have eN' : I 200 34 = nI (cr_mjn I) := eN
  have hN' : cr_mjn I ≤ 5 := hN
  have hmj := hwt _ (cr_cn (N := 4) hwj.2)
  refine bk_yX9_leads_0 hτ h ?_
  refine cr_loop (fun k => cr_V Γ 6 [.ref 200, .int x1, .int x2, .int x3, .int (if cr_ledM (I 221) (I 222) (I 243) (cr_mjmw I) j x2 x3 k then 0 else 1), .int (nI k), .null] [] I (cr_rf τ) 247) (cr_mjn I) ?_ ?_ 0 (Nat.zero_le _)
  · refine bk_yX9_leads_6 hτ h ⟨fun _ => ⟨by split <;> simp, hK⟩, fun c => absurd ?_ c⟩
    rw [eN']; exact Int32.le_refl _
  · intro k hk ih
    have hxk : (0 : Int) ≤ (nI k).toInt ∧ (nI k).toInt < 5 := cr_ix (by omega) (by omega)
    have hwk := hw k hk
    have hmk := hwt _ (cr_cn (N := 4) hwk.2)
    have hkj : nI k = x1 ↔ k = j := by
      rw [eJ]; exact nI_eq (by omega) (by omega)
    have hlt : nI k < x1 ↔ k < j := by
      rw [eJ]; exact nI_ltI (by omega) (by omega)
    refine bk_yX9_leads_6 hτ h ⟨fun c => absurd c ?_, fun _ => ⟨hxk, ?_, hx1, ?_, ?_⟩⟩
    · rw [eN']; exact cr_nle hk (by omega)
    · rw [cr_nc (by omega)]; exact hwk.2
    · rw [hj]; exact hwj.2
    · rw [cr_nc (by omega), hj]
      intro v1 e1
      refine ⟨fun _ => trivial, fun _ => ⟨fun _ => trivial, fun _ => ⟨⟨hxk, hxk, fun _ => trivial, fun _ => ⟨hxk, hxk, fun _ => trivial, fun _ => trivial⟩⟩, trivial⟩⟩, ?_⟩
      intro v2 e2
      rintro v3 rfl
      rw [nI_1]
      have ed : v1.toInt = (cr_mjmw I k).toInt - (cr_mjmw I j).toInt := by
        rw [e1, cr_sub (by omega)]
        rfl
      have hto1 : (I 222 k - 1).toInt = (I 222 k).toInt - 1 := by
        rw [cr_sub (by show -2147483648 ≤ (I 222 k).toInt - 1 ∧ _; have : (1 : Int32).toInt = 1 := rfl; omega)]
        rfl
      have hgo : (f_yX9_goes τ (nI k) x2 x3 I = 0) ↔ ¬ (((I 221 k).toInt ≤ x2.toInt ∧ x2.toInt < (I 222 k).toInt) ∧ (I 243 k + x2) - I 221 k = x3) := by
        unfold f_yX9_goes
        rw [cr_nc (by omega)]
        by_cases q : (f_yX9_in τ x2.toInt64 (I 221 k).toInt64 (I 222 k - 1).toInt64 I) = 0
        · rw [if_pos q]
          rw [cr_in0, Int32.toInt_toInt64, Int32.toInt_toInt64, Int32.toInt_toInt64, hto1] at q
          exact ⟨fun _ z => q (by omega), fun _ => rfl⟩
        · rw [if_neg q]
          rw [cr_in0, Int32.toInt_toInt64, Int32.toInt_toInt64, Int32.toInt_toInt64, hto1] at q
          have q' := Classical.not_not.mp q
          by_cases q3 : (I 243 k + x2) - I 221 k = x3
          · rw [if_pos q3]; exact ⟨fun z => absurd z (by decide), fun z => absurd ⟨by omega, q3⟩ z⟩
          · rw [if_neg q3]; exact ⟨fun _ z => q3 z.2, fun _ => rfl⟩
      have e : v2 = (if cr_ledM (I 221) (I 222) (I 243) (cr_mjmw I) j x2 x3 (k + 1) then 0 else 1) := by
        rw [e2, cr_ledM]
        cases hS : cr_ledM (I 221) (I 222) (I 243) (cr_mjmw I) j x2 x3 k with
        | true => simp
        | false =>
          rw [Bool.false_or]
          simp only [Bool.false_eq_true, if_false]
          rw [if_neg (by decide)]
          by_cases c1 : nI k = x1
          · rw [if_pos c1, decide_eq_false (show ¬ k ≠ j from fun q => q (hkj.mp c1))]
            simp
          · rw [if_neg c1, decide_eq_true (show k ≠ j from fun q => c1 (hkj.mpr q))]
            by_cases c2 : f_yX9_goes τ (nI k) x2 x3 I = 0
            · rw [if_pos c2]
              have := hgo.mp c2
              by_cases q : (I 221 k).toInt ≤ x2.toInt ∧ x2.toInt < (I 222 k).toInt
              · rw [decide_eq_false (show ¬ (I 243 k + x2) - I 221 k = x3 from fun z => this ⟨q, z⟩)]
                simp
              · rw [decide_eq_false q]
                simp
            · rw [if_neg c2]
              have q1 : ((I 221 k).toInt ≤ x2.toInt ∧ x2.toInt < (I 222 k).toInt) ∧ (I 243 k + x2) - I 221 k = x3 := Classical.byContradiction fun z => c2 (hgo.mpr z)
              rw [decide_eq_true q1.1, decide_eq_true q1.2]
              simp only [Bool.true_and, decide_eq_true_eq]
              by_cases c3 : 0 < v1
              · rw [if_pos c3]
                rw [cr_lt, ed] at c3
                rw [if_pos (Or.inl (by have : (0 : Int32).toInt = 0 := rfl; omega))]
              · rw [if_neg c3]
                rw [cr_lt, ed] at c3
                have z0 : (0 : Int32).toInt = 0 := rfl
                by_cases c4 : v1 = 0
                · rw [if_pos c4]
                  rw [cr_eq, ed] at c4
                  by_cases c5 : nI k < x1
                  · rw [if_pos c5, if_pos (Or.inr ⟨by omega, hlt.mp c5⟩)]
                  · rw [if_neg c5, if_neg (fun z => z.elim (fun z => by omega) (fun z => c5 (hlt.mpr z.2)))]
                · rw [if_neg c4]
                  rw [cr_eq, ed] at c4
                  rw [if_neg (fun z => z.elim (fun z => by omega) (fun z => by omega))]
      rw [e]
      exact ih)
theorem nb_yX9_leads {τ : Nat → Nat} {x1 x2 x3 : Int32} {I : cr_I} : narrow .boolean (.int (f_yX9_leads τ x1 x2 x3 I)) = .int (f_yX9_leads τ x1 x2 x3 I) := by
  unfold f_yX9_leads
  split <;> rfl
def f_yX9_burnt (τ : Nat → Nat) (I : cr_I) : Int32 := cr_costS (cr_mjn I) (I 221) (I 222) (I 223) (I 243) (cr_mjmw I) (I 214 3) (I 214 4) (cr_mjn I)
def p_yX9_burnt (τ : Nat → Nat) (I : cr_I) : Prop := cr_mjok I
theorem bk_yX9_burnt_0 {Γ : cr_G} {K : cr_K} {τ : Nat → Nat} {I : cr_I}  (hτ : cr_tau τ)  (h : cr_Ok yX9_burnt cX9_burnt 6 (some .int) (cr_rm0 3 74) K 247 247 Γ) (hyp : cr_V Γ 4 [.ref 200, .int (0 : Int32), .int (0 : Int32), .null, .null, .null] [] I (cr_rf τ) 247) : cr_V Γ 0 [.ref 200, .null, .null, .null, .null, .null] [] I (cr_rf τ) 247 := by
  refine cr_iconst h (v := (0 : Int32)) (by decide) dX9_burnt_0 ?_
  refine cr_istore_n h (j := 1) rfl (by decide) rfl dX9_burnt_1 ?_
  show cr_V Γ 2 [.ref 200, .int (0 : Int32), .null, .null, .null, .null] [] I (cr_rf τ) 247
  refine cr_iconst h (v := (0 : Int32)) (by decide) dX9_burnt_2 ?_
  refine cr_istore_n h (j := 2) rfl (by decide) rfl dX9_burnt_3 ?_
  show cr_V Γ 4 [.ref 200, .int (0 : Int32), .int (0 : Int32), .null, .null, .null] [] I (cr_rf τ) 247
  exact cr_weak [true, true, true, false, false, false] hyp
theorem bk_yX9_burnt_4 {Γ : cr_G} {K : cr_K} {τ : Nat → Nat} {I : cr_I} {x1 : Int32} {x2 : Int32} (hτ : cr_tau τ)  (h : cr_Ok yX9_burnt cX9_burnt 6 (some .int) (cr_rm0 3 74) K 247 247 Γ) (hyp : ((I 200 34) ≤ x2 → K (some (.int x1)) I (cr_rf τ)) ∧ (¬ (I 200 34) ≤ x2 → ((0 ≤ x2.toInt ∧ x2.toInt < 5) ∧ (0 ≤ (I 225 x2.toNatClampNeg).toInt ∧ (I 225 x2.toNatClampNeg).toInt < 4) ∧ (∀ v1 : Int32, v1 = (I 201 (I 225 x2.toNatClampNeg).toNatClampNeg) → (∀ v2 : Int32, v2 = (v1 - (I 214 3)) → (∀ v3 : Int32, v3 = (if (1 : Int32) ≤ v2 then v2 else (1 : Int32)) → ((0 ≤ x2.toInt ∧ x2.toInt < 5) ∧ (∀ v4 : Int32, v4 = (I 221 x2.toNatClampNeg) → cr_V Γ 56 [.ref 200, .int x1, .int x2, .int v1, .int v3, .int v4] [] I (cr_rf τ) 247)))))))) : cr_V Γ 4 [.ref 200, .int x1, .int x2, .null, .null, .null] [] I (cr_rf τ) 247 := by
  refine cr_iload_n h (j := 2) rfl rfl dX9_burnt_4 ?_
  refine cr_aload_n h (j := 0) rfl rfl dX9_burnt_5 ?_
  refine cr_getI h (k := 34) cr_clsX9 (by decide) rfl rfl wf_X9_340 (by decide) rfl dX9_burnt_6 ?_
  refine cr_icmp_ge h (tgt := 137) (by decide) dX9_burnt_9 (fun c1 => ?_) (fun c1 => ?_)
  · have hyp := hyp.1 c1
    refine cr_iload_n h (j := 1) rfl rfl dX9_burnt_137 ?_
    refine cr_iret h rfl rfl rfl dX9_burnt_138 ?_
    exact hyp
  · have hyp := hyp.2 c1
    refine cr_aload_n h (j := 0) rfl rfl dX9_burnt_12 ?_
    refine cr_getR h (k := 0) cr_clsX9 (by decide) rfl rfl wf_X9_7 (by decide) rfl rfl dX9_burnt_13 ?_
    refine cr_aload_n h (j := 0) rfl rfl dX9_burnt_16 ?_
    refine cr_getR h (k := 33) cr_clsX9 (by decide) rfl rfl wf_X9_86 (by decide) rfl rfl dX9_burnt_17 ?_
    refine cr_iload_n h (j := 2) rfl rfl dX9_burnt_20 ?_
    refine cs_ild h (by decide) rfl hyp.1 (q := x2.toNatClampNeg) rfl dX9_burnt_21 ?_
    have hyp := hyp.2
    refine cs_ild h (by decide) rfl hyp.1 (q := (I 225 x2.toNatClampNeg).toNatClampNeg) rfl dX9_burnt_22 ?_
    have hyp := hyp.2
    refine cs_i_n h 3 rfl (by decide) rfl dX9_burnt_23 (fun v1 ev1 => ?_)
    have hyp := hyp v1 ev1
    show cr_V Γ 24 [.ref 200, .int x1, .int x2, .int v1, .null, .null] [] I (cr_rf τ) 247
    refine cr_iload_n h (j := 3) rfl rfl dX9_burnt_24 ?_
    refine cr_aload_n h (j := 0) rfl rfl dX9_burnt_25 ?_
    refine cr_getR h (k := 15) cr_clsX9 (by decide) rfl rfl wf_X9_53 (by decide) rfl rfl dX9_burnt_26 ?_
    refine cr_iconst h (v := (3 : Int32)) (by decide) dX9_burnt_29 ?_
    refine cs_ild h (by decide) rfl (by decide) (q := 3) (by decide) dX9_burnt_30 ?_
    refine cr_isub h dX9_burnt_31 ?_
    refine cs_i h 4 (by decide) rfl dX9_burnt_32 (fun v2 ev2 => ?_)
    have hyp := hyp v2 ev2
    show cr_V Γ 34 [.ref 200, .int x1, .int x2, .int v1, .int v2, .null] [] I (cr_rf τ) 247
    refine cr_iload h rfl dX9_burnt_34 ?_
    refine cr_iconst h (v := (1 : Int32)) (by decide) dX9_burnt_36 ?_
    have J1 : cr_V Γ 46 [.ref 200, .int x1, .int x2, .int v1, .int v2, .null] [.int (if (1 : Int32) ≤ v2 then v2 else (1 : Int32))] I (cr_rf τ) 247 := by
      refine cs_i h 4 (by decide) rfl dX9_burnt_46 (fun v3 ev3 => ?_)
      have hyp := hyp v3 ev3
      show cr_V Γ 48 [.ref 200, .int x1, .int x2, .int v1, .int v3, .null] [] I (cr_rf τ) 247
      refine cr_aload_n h (j := 0) rfl rfl dX9_burnt_48 ?_
      refine cr_getR h (k := 29) cr_clsX9 (by decide) rfl rfl wf_X9_74 (by decide) rfl rfl dX9_burnt_49 ?_
      refine cr_iload_n h (j := 2) rfl rfl dX9_burnt_52 ?_
      refine cs_ild h (by decide) rfl hyp.1 (q := x2.toNatClampNeg) rfl dX9_burnt_53 ?_
      have hyp := hyp.2
      refine cs_i h 5 (by decide) rfl dX9_burnt_54 (fun v4 ev4 => ?_)
      have hyp := hyp v4 ev4
      show cr_V Γ 56 [.ref 200, .int x1, .int x2, .int v1, .int v3, .int v4] [] I (cr_rf τ) 247
      exact cr_weak [true, true, true, true, true, true] hyp
    refine cr_icmp_ge h (tgt := 44) (by decide) dX9_burnt_37 (fun c2 => ?_) (fun c2 => ?_)
    · refine cr_iload h rfl dX9_burnt_44 ?_
      exact cr_ite (by rw [if_pos c2]) J1
    · refine cr_iconst h (v := (1 : Int32)) (by decide) dX9_burnt_40 ?_
      refine cr_goto h (tgt := 46) (by decide) dX9_burnt_41 ?_
      exact cr_ite (by rw [if_neg c2]) J1
theorem bk_yX9_burnt_56 {Γ : cr_G} {K : cr_K} {τ : Nat → Nat} {I : cr_I} {x1 : Int32} {x2 : Int32} {x3 : Int32} {x4 : Int32} {x5 : Int32} (hτ : cr_tau τ)  (h : cr_Ok yX9_burnt cX9_burnt 6 (some .int) (cr_rm0 3 74) K 247 247 Γ) (hyp : (0 ≤ x2.toInt ∧ x2.toInt < 5) ∧ ((I 222 x2.toNatClampNeg) ≤ x5 → ((0 ≤ x2.toInt ∧ x2.toInt < 5) ∧ (0 ≤ x2.toInt ∧ x2.toInt < 5) ∧ (∀ v5 : Int32, v5 = (x1 + ((I 214 4) * ((I 243 x2.toNatClampNeg) - (I 223 x2.toNatClampNeg)))) → (∀ v6 : Int32, v6 = x2 + (1 : Int32) → cr_V Γ 4 [.ref 200, .int v5, .int v6, .null, .null, .null] [] I (cr_rf τ) 247)))) ∧ (¬ (I 222 x2.toNatClampNeg) ≤ x5 → ((0 ≤ x2.toInt ∧ x2.toInt < 5) ∧ (0 ≤ x2.toInt ∧ x2.toInt < 5) ∧ p_yX9_leads τ x2 x5 (((I 243 x2.toNatClampNeg) + x5) - (I 221 x2.toNatClampNeg)) I ∧ (∀ v7 : Int32, v7 = (x1 + (if (f_yX9_leads τ x2 x5 (((I 243 x2.toNatClampNeg) + x5) - (I 221 x2.toNatClampNeg)) I) = 0 then x4 else x3)) → (∀ v8 : Int32, v8 = x5 + (1 : Int32) → cr_V Γ 56 [.ref 200, .int v7, .int x2, .int x3, .int x4, .int v8] [] I (cr_rf τ) 247))))) : cr_V Γ 56 [.ref 200, .int x1, .int x2, .int x3, .int x4, .int x5] [] I (cr_rf τ) 247 := by
  refine cr_iload h rfl dX9_burnt_56 ?_
  refine cr_aload_n h (j := 0) rfl rfl dX9_burnt_58 ?_
  refine cr_getR h (k := 30) cr_clsX9 (by decide) rfl rfl wf_X9_77 (by decide) rfl rfl dX9_burnt_59 ?_
  refine cr_iload_n h (j := 2) rfl rfl dX9_burnt_62 ?_
  refine cs_ild h (by decide) rfl hyp.1 (q := x2.toNatClampNeg) rfl dX9_burnt_63 ?_
  have hyp := hyp.2
  refine cr_icmp_ge h (tgt := 108) (by decide) dX9_burnt_64 (fun c3 => ?_) (fun c3 => ?_)
  · have hyp := hyp.1 c3
    refine cr_iload_n h (j := 1) rfl rfl dX9_burnt_108 ?_
    refine cr_aload_n h (j := 0) rfl rfl dX9_burnt_109 ?_
    refine cr_getR h (k := 15) cr_clsX9 (by decide) rfl rfl wf_X9_53 (by decide) rfl rfl dX9_burnt_110 ?_
    refine cr_iconst h (v := (4 : Int32)) (by decide) dX9_burnt_113 ?_
    refine cs_ild h (by decide) rfl (by decide) (q := 4) (by decide) dX9_burnt_114 ?_
    refine cr_aload_n h (j := 0) rfl rfl dX9_burnt_115 ?_
    refine cr_getR h (k := 61) cr_clsX9 (by decide) rfl rfl wf_X9_140 (by decide) rfl rfl dX9_burnt_116 ?_
    refine cr_iload_n h (j := 2) rfl rfl dX9_burnt_119 ?_
    refine cs_ild h (by decide) rfl hyp.1 (q := x2.toNatClampNeg) rfl dX9_burnt_120 ?_
    have hyp := hyp.2
    refine cr_aload_n h (j := 0) rfl rfl dX9_burnt_121 ?_
    refine cr_getR h (k := 31) cr_clsX9 (by decide) rfl rfl wf_X9_80 (by decide) rfl rfl dX9_burnt_122 ?_
    refine cr_iload_n h (j := 2) rfl rfl dX9_burnt_125 ?_
    refine cs_ild h (by decide) rfl hyp.1 (q := x2.toNatClampNeg) rfl dX9_burnt_126 ?_
    have hyp := hyp.2
    refine cr_isub h dX9_burnt_127 ?_
    refine cr_imul h dX9_burnt_128 ?_
    refine cr_iadd h dX9_burnt_129 ?_
    refine cs_i_n h 1 rfl (by decide) rfl dX9_burnt_130 (fun v5 ev5 => ?_)
    have hyp := hyp v5 ev5
    show cr_V Γ 131 [.ref 200, .int v5, .int x2, .int x3, .int x4, .int x5] [] I (cr_rf τ) 247
    refine cs_inc h (v := (1 : Int32)) 2 rfl (by decide) (by decide) rfl dX9_burnt_131 (fun v6 ev6 => ?_)
    have hyp := hyp v6 ev6
    show cr_V Γ 134 [.ref 200, .int v5, .int v6, .int x3, .int x4, .int x5] [] I (cr_rf τ) 247
    refine cr_goto h (tgt := 4) (by decide) dX9_burnt_134 ?_
    exact cr_weak [true, true, true, false, false, false] hyp
  · have hyp := hyp.2 c3
    refine cr_iload_n h (j := 1) rfl rfl dX9_burnt_67 ?_
    refine cr_aload_n h (j := 0) rfl rfl dX9_burnt_68 ?_
    refine cr_iload_n h (j := 2) rfl rfl dX9_burnt_69 ?_
    refine cr_iload h rfl dX9_burnt_70 ?_
    refine cr_aload_n h (j := 0) rfl rfl dX9_burnt_72 ?_
    refine cr_getR h (k := 61) cr_clsX9 (by decide) rfl rfl wf_X9_140 (by decide) rfl rfl dX9_burnt_73 ?_
    refine cr_iload_n h (j := 2) rfl rfl dX9_burnt_76 ?_
    refine cs_ild h (by decide) rfl hyp.1 (q := x2.toNatClampNeg) rfl dX9_burnt_77 ?_
    have hyp := hyp.2
    refine cr_iload h rfl dX9_burnt_78 ?_
    refine cr_iadd h dX9_burnt_80 ?_
    refine cr_aload_n h (j := 0) rfl rfl dX9_burnt_81 ?_
    refine cr_getR h (k := 29) cr_clsX9 (by decide) rfl rfl wf_X9_74 (by decide) rfl rfl dX9_burnt_82 ?_
    refine cr_iload_n h (j := 2) rfl rfl dX9_burnt_85 ?_
    refine cs_ild h (by decide) rfl hyp.1 (q := x2.toNatClampNeg) rfl dX9_burnt_86 ?_
    have hyp := hyp.2
    refine cr_isub h dX9_burnt_87 ?_
    refine cr_callV h (c0 := 9) (T0 := TX9) C_yX9_leads cZ_yX9_leads wm_X9_347 wv_yX9_leads we_yX9_leads (by decide) rfl rfl (cr_rmS (by decide) (by decide)) (As := [.int x2, .int x5, .int (((I 243 x2.toNatClampNeg) + x5) - (I 221 x2.toNatClampNeg))]) rfl (Nat.le_of_ble_eq_true rfl) dX9_burnt_88 ⟨τ, x2, x5, (((I 243 x2.toNatClampNeg) + x5) - (I 221 x2.toNatClampNeg)), rfl, hτ, rfl, hyp.1, ?_⟩
    have hyp := hyp.2
    show cr_V Γ 91 [.ref 200, .int x1, .int x2, .int x3, .int x4, .int x5] [.int (f_yX9_leads τ x2 x5 (((I 243 x2.toNatClampNeg) + x5) - (I 221 x2.toNatClampNeg)) I), .int x1] I (cr_rf τ) 247
    have J2 : cr_V Γ 100 [.ref 200, .int x1, .int x2, .int x3, .int x4, .int x5] [.int (if (f_yX9_leads τ x2 x5 (((I 243 x2.toNatClampNeg) + x5) - (I 221 x2.toNatClampNeg)) I) = 0 then x4 else x3), .int x1] I (cr_rf τ) 247 := by
      refine cr_iadd h dX9_burnt_100 ?_
      refine cs_i_n h 1 rfl (by decide) rfl dX9_burnt_101 (fun v7 ev7 => ?_)
      have hyp := hyp v7 ev7
      show cr_V Γ 102 [.ref 200, .int v7, .int x2, .int x3, .int x4, .int x5] [] I (cr_rf τ) 247
      refine cs_inc h (v := (1 : Int32)) 5 rfl (by decide) (by decide) rfl dX9_burnt_102 (fun v8 ev8 => ?_)
      have hyp := hyp v8 ev8
      show cr_V Γ 105 [.ref 200, .int v7, .int x2, .int x3, .int x4, .int v8] [] I (cr_rf τ) 247
      refine cr_goto h (tgt := 56) (by decide) dX9_burnt_105 ?_
      exact cr_weak [true, true, true, true, true, true] hyp
    refine cr_if_eq h (tgt := 98) (by decide) dX9_burnt_91 (fun c4 => ?_) (fun c4 => ?_)
    · refine cr_iload h rfl dX9_burnt_98 ?_
      exact cr_ite (by rw [if_pos c4]) J2
    · refine cr_iload_n h (j := 3) rfl rfl dX9_burnt_94 ?_
      refine cr_goto h (tgt := 100) (by decide) dX9_burnt_95 ?_
      exact cr_ite (by rw [if_neg c4]) J2
abbrev T_yX9_burnt : cr_T := fun vs I R K => ∃ (τ : Nat → Nat), R = cr_rf τ ∧ cr_tau τ ∧ vs = [.ref 200] ∧ p_yX9_burnt τ I ∧ K (some (.int (f_yX9_burnt τ I))) I (cr_rf τ)
abbrev S_yX9_burnt : Prop := cr_C yX9_burnt cX9_burnt 6 (some .int) (cr_rm0 3 74) 247 247 T_yX9_burnt
theorem G_yX9_burnt (H : ∀ (Γ : cr_G) (K : cr_K) (τ : Nat → Nat) (I : cr_I), cr_tau τ → cr_Ok yX9_burnt cX9_burnt 6 (some .int) (cr_rm0 3 74) K 247 247 Γ → p_yX9_burnt τ I → K (some (.int (f_yX9_burnt τ I))) I (cr_rf τ) → cr_V Γ 0 [.ref 200, .null, .null, .null, .null, .null] [] I (cr_rf τ) 247) : cr_C yX9_burnt cX9_burnt 6 (some .int) (cr_rm0 3 74) 247 247 T_yX9_burnt := by
  refine cr_C.of (by decide +kernel) (fun vs I R K hT => ?_) (fun Γ K h vs I R hT => ?_)
  · obtain ⟨τ, rfl, hτ, rfl, hp, hK⟩ := hT
    exact Nat.le_of_ble_eq_true rfl
  · obtain ⟨τ, rfl, hτ, rfl, hp, hK⟩ := hT
    exact H Γ K τ I hτ h hp hK
theorem C_yX9_burnt : S_yX9_burnt := G_yX9_burnt (by
  intro Γ K τ I hτ h hp hK
  have hjo := hp
  obtain ⟨⟨hn, hn5, hw⟩, hwt⟩ := hp
  obtain ⟨eN, hN⟩ := cr_ofI (B := 5) hn.1 hn.2
  have eN' : I 200 34 = nI (cr_mjn I) := eN
  have hN' : cr_mjn I ≤ 5 := hN
  have eni : (cr_mjn I : Int) = (I 200 34).toInt := by
    show (((I 200 34).toInt.toNat : Nat) : Int) = _
    omega
  unfold f_yX9_burnt at hK
  refine bk_yX9_burnt_0 hτ h ?_
  refine cr_loop (fun j => cr_V Γ 4 [.ref 200, .int (cr_costS (cr_mjn I) (I 221) (I 222) (I 223) (I 243) (cr_mjmw I) (I 214 3) (I 214 4) j), .int (nI j), .null, .null, .null] [] I (cr_rf τ) 247) (cr_mjn I) ?_ ?_ 0 (Nat.zero_le _)
  · refine bk_yX9_burnt_4 hτ h ⟨fun _ => hK, fun c => absurd ?_ c⟩
    rw [eN']; exact Int32.le_refl _
  · intro j hj ih
    have hxj : (0 : Int) ≤ (nI j).toInt ∧ (nI j).toInt < 5 := cr_ix (by omega) (by omega)
    have hwj := hw j hj
    refine bk_yX9_burnt_4 hτ h ⟨fun c => absurd c ?_, fun _ => ⟨hxj, ?_, ?_⟩⟩
    · rw [eN']; exact cr_nle hj (by omega)
    · rw [cr_nc (by omega)]; exact hwj.2
    · rw [cr_nc (by omega)]
      rintro v1 e1 v2 e2 v3 e3
      refine ⟨hxj, ?_⟩
      rintro v4 rfl
      have hv2 : I 221 j = I 221 j + nI 0 := by rw [nI_0, Int32.add_zero]
      have hv1 : ∀ z : Int32, z = z + cr_rowS (cr_mjn I) (I 221) (I 222) (I 243) (cr_mjmw I) (I 214 3) j 0 := fun z => by rw [cr_rowS, Int32.add_zero]
      rw [hv1 (cr_costS _ _ _ _ _ _ _ _ _)]
      conv => arg 3; rw [hv2]
      refine cr_loop (fun m => cr_V Γ 56 [.ref 200, .int (cr_costS (cr_mjn I) (I 221) (I 222) (I 223) (I 243) (cr_mjmw I) (I 214 3) (I 214 4) j + cr_rowS (cr_mjn I) (I 221) (I 222) (I 243) (cr_mjmw I) (I 214 3) j m), .int (nI j), .int v1, .int v3, .int (I 221 j + nI m)] [] I (cr_rf τ) 247) ((I 222 j).toInt - (I 221 j).toInt).toNat ?_ ?_ 0 (Nat.zero_le _)
      · have eq : I 221 j + nI ((I 222 j).toInt - (I 221 j).toInt).toNat = I 222 j := by
          apply Int32.toInt_inj.mp
          rw [cr_add (by rw [cr_nt (by omega)]; omega), cr_nt (by omega)]
          omega
        rw [eq]
        refine bk_yX9_burnt_56 hτ h ⟨hxj, fun _ => ⟨hxj, hxj, ?_⟩, fun c => absurd ?_ c⟩
        · rw [cr_nc (by omega)]
          rintro v5 rfl v6 rfl
          rw [nI_1, Int32.add_assoc, Int32.add_comm (cr_rowS _ _ _ _ _ _ _ _)]
          exact ih
        · rw [cr_nc (by omega)]; exact Int32.le_refl _
      · intro m hm ihm
        have em : (I 221 j + nI m).toInt = (I 221 j).toInt + m := by
          rw [cr_add (by rw [cr_nt (by omega)]; omega), cr_nt (by omega)]
        refine bk_yX9_burnt_56 hτ h ⟨hxj, fun c => absurd c ?_, fun _ => ⟨hxj, hxj, ⟨hjo, hxj.1, ?_⟩, ?_⟩⟩
        · rw [cr_nc (by omega), cr_le, em]; omega
        · rw [cr_nt (by omega)]; omega
        · rw [cr_nc (by omega)]
          rintro v rfl w rfl
          have eb : (if f_yX9_leads τ (nI j) (I 221 j + nI m) (I 243 j + (I 221 j + nI m) - I 221 j) I = 0 then v3 else v1) = cr_burnS (cr_mjn I) (I 221) (I 222) (I 243) (cr_mjmw I) (I 214 3) j (I 221 j + nI m) := by
            unfold f_yX9_leads cr_burnS
            rw [cr_nc (by omega), cr_ledM_eq]
            have e1' : v1 = cr_mjmw I j := e1
            cases cr_ledS (I 221) (I 222) (I 243) (cr_mjmw I) j (I 221 j + nI m) (cr_mjn I) with
            | true =>
              simp only [if_true]
              rw [e3, e2, e1']
              by_cases q : (1 : Int32) ≤ cr_mjmw I j - I 214 3
              · rw [if_pos q]
                by_cases q2 : 1 < cr_mjmw I j - I 214 3
                · rw [if_pos q2]
                · rw [if_neg q2]
                  rw [cr_le] at q
                  rw [cr_lt] at q2
                  exact Int32.toInt_inj.mp (by omega)
              · rw [if_neg q]
                rw [cr_le] at q
                rw [if_neg (by rw [cr_lt]; omega)]
            | false =>
              simp only [Bool.false_eq_true, if_false]
              rw [if_neg (by decide), e1']
          rw [eb, Int32.add_assoc (I 221 j) (nI m) 1, nI_1]
          rw [cr_rowS, ← Int32.add_assoc] at ihm
          exact ihm)
