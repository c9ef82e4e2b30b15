/-! the reference's run, its pieces -/
theorem cr_iten {a b x y : Int32} : (if a ≤ b then x else y) = if b < a then y else x := by
  by_cases q : b < a
  · rw [if_pos q, if_neg (Int32.not_le.mpr q)]
  · rw [if_neg q, if_pos (Int32.not_lt.mp q)]
def f_yX9_pushedIn (τ : Nat → Nat) (x1 : Int32) (I : cr_I) : Int32 := if 0 ≤ cr_pushS (I 215) (I 216) x1 (I 200 18).toNatClampNeg then f_yX9_lesser τ (cr_pushS (I 215) (I 216) x1 (I 200 18).toNatClampNeg) (I 203 (I 213 0).toNatClampNeg) I else -(f_yX9_lesser τ (-(cr_pushS (I 215) (I 216) x1 (I 200 18).toNatClampNeg)) (I 202 (I 213 0).toNatClampNeg) I)
def p_yX9_pushedIn (τ : Nat → Nat) (x1 : Int32) (I : cr_I) : Prop := (0 ≤ (I 200 18).toInt ∧ (I 200 18).toInt ≤ 8) ∧ (0 ≤ (I 213 0).toInt ∧ (I 213 0).toInt < 4)
theorem bk_yX9_pushedIn_0 {Γ : cr_G} {K : cr_K} {τ : Nat → Nat} {I : cr_I} {x1 : Int32} (hτ : cr_tau τ)  (h : cr_Ok yX9_pushedIn cX9_pushedIn 4 (some .int) (cr_rm0 1 21) K 247 247 Γ) (hyp : cr_V Γ 4 [.ref 200, .int x1, .int (0 : Int32), .int (0 : Int32)] [] I (cr_rf τ) 247) : cr_V Γ 0 [.ref 200, .int x1, .null, .null] [] I (cr_rf τ) 247 := by
  refine cr_iconst h (v := (0 : Int32)) (by decide) dX9_pushedIn_0 ?_
  refine cr_istore_n h (j := 2) rfl (by decide) rfl dX9_pushedIn_1 ?_
  show cr_V Γ 2 [.ref 200, .int x1, .int (0 : Int32), .null] [] I (cr_rf τ) 247
  refine cr_iconst h (v := (0 : Int32)) (by decide) dX9_pushedIn_2 ?_
  refine cr_istore_n h (j := 3) rfl (by decide) rfl dX9_pushedIn_3 ?_
  show cr_V Γ 4 [.ref 200, .int x1, .int (0 : Int32), .int (0 : Int32)] [] I (cr_rf τ) 247
  exact cr_weak [true, true, true, true] hyp
theorem bk_yX9_pushedIn_4 {Γ : cr_G} {K : cr_K} {τ : Nat → Nat} {I : cr_I} {x1 : Int32} {x2 : Int32} {x3 : Int32} (hτ : cr_tau τ)  (h : cr_Ok yX9_pushedIn cX9_pushedIn 4 (some .int) (cr_rm0 1 21) K 247 247 Γ) (hyp : ((I 200 18) ≤ x3 → (∀ v1 : Int32, v1 = (I 213 0) → ((0 ≤ x2 → ((0 ≤ v1.toInt ∧ v1.toInt < 4) ∧ K (some (.int (f_yX9_lesser τ x2 (I 203 v1.toNatClampNeg) I))) I (cr_rf τ))) ∧ (¬ 0 ≤ x2 → ((0 ≤ v1.toInt ∧ v1.toInt < 4) ∧ K (some (.int (-(f_yX9_lesser τ (-x2) (I 202 v1.toNatClampNeg) I)))) I (cr_rf τ)))))) ∧ (¬ (I 200 18) ≤ x3 → ((0 ≤ x3.toInt ∧ x3.toInt < 8) ∧ (¬ (I 215 x3.toNatClampNeg) = x1 → True) ∧ ((I 215 x3.toNatClampNeg) = x1 → ((0 ≤ x3.toInt ∧ x3.toInt < 8) ∧ True)) ∧ (∀ v2 : Int32, v2 = (if (I 215 x3.toNatClampNeg) = x1 then (I 216 x3.toNatClampNeg) else x2) → (∀ v3 : Int32, v3 = x3 + (1 : Int32) → cr_V Γ 4 [.ref 200, .int x1, .int v2, .int v3] [] I (cr_rf τ) 247))))) : cr_V Γ 4 [.ref 200, .int x1, .int x2, .int x3] [] I (cr_rf τ) 247 := by
  refine cr_iload_n h (j := 3) rfl rfl dX9_pushedIn_4 ?_
  refine cr_aload_n h (j := 0) rfl rfl dX9_pushedIn_5 ?_
  refine cr_getI h (k := 18) cr_clsX9 (by decide) rfl rfl wf_X9_254 (by decide) rfl dX9_pushedIn_6 ?_
  refine cr_icmp_ge h (tgt := 39) (by decide) dX9_pushedIn_9 (fun c1 => ?_) (fun c1 => ?_)
  · have hyp := hyp.1 c1
    refine cr_aload_n h (j := 0) rfl rfl dX9_pushedIn_39 ?_
    refine cr_getR h (k := 14) cr_clsX9 (by decide) rfl rfl wf_X9_50 (by decide) rfl rfl dX9_pushedIn_40 ?_
    refine cr_iconst h (v := (0 : Int32)) (by decide) dX9_pushedIn_43 ?_
    refine cs_ild h (by decide) rfl (by decide) (q := 0) (by decide) dX9_pushedIn_44 ?_
    refine cs_i_n h 3 rfl (by decide) rfl dX9_pushedIn_45 (fun v1 ev1 => ?_)
    have hyp := hyp v1 ev1
    show cr_V Γ 46 [.ref 200, .int x1, .int x2, .int v1] [] I (cr_rf τ) 247
    refine cr_iload_n h (j := 2) rfl rfl dX9_pushedIn_46 ?_
    refine cr_if_ge h (tgt := 65) (by decide) dX9_pushedIn_47 (fun c2 => ?_) (fun c2 => ?_)
    · have hyp := hyp.1 c2
      refine cr_iload_n h (j := 2) rfl rfl dX9_pushedIn_65 ?_
      refine cr_aload_n h (j := 0) rfl rfl dX9_pushedIn_66 ?_
      refine cr_getR h (k := 2) cr_clsX9 (by decide) rfl rfl wf_X9_16 (by decide) rfl rfl dX9_pushedIn_67 ?_
      refine cr_iload_n h (j := 3) rfl rfl dX9_pushedIn_70 ?_
      refine cs_ild h (by decide) rfl hyp.1 (q := v1.toNatClampNeg) rfl dX9_pushedIn_71 ?_
      have hyp := hyp.2
      refine cr_callS h C_yX9_lesser cZ_yX9_lesser wm_X9_280 ws_yX9_lesser (cr_rmS (by decide) (by decide)) (As := [.int x2, .int (I 203 v1.toNatClampNeg)]) rfl (Nat.le_of_ble_eq_true rfl) dX9_pushedIn_72 ⟨τ, x2, (I 203 v1.toNatClampNeg), rfl, hτ, rfl, ?_⟩
      show cr_V Γ 75 [.ref 200, .int x1, .int x2, .int v1] [.int (f_yX9_lesser τ x2 (I 203 v1.toNatClampNeg) I)] I (cr_rf τ) 247
      refine cr_iret h rfl rfl rfl dX9_pushedIn_75 ?_
      exact hyp
    · have hyp := hyp.2 c2
      refine cr_iload_n h (j := 2) rfl rfl dX9_pushedIn_50 ?_
      refine cr_ineg h dX9_pushedIn_51 ?_
      refine cr_aload_n h (j := 0) rfl rfl dX9_pushedIn_52 ?_
      refine cr_getR h (k := 1) cr_clsX9 (by decide) rfl rfl wf_X9_13 (by decide) rfl rfl dX9_pushedIn_53 ?_
      refine cr_iload_n h (j := 3) rfl rfl dX9_pushedIn_56 ?_
      refine cs_ild h (by decide) rfl hyp.1 (q := v1.toNatClampNeg) rfl dX9_pushedIn_57 ?_
      have hyp := hyp.2
      refine cr_callS h C_yX9_lesser cZ_yX9_lesser wm_X9_280 ws_yX9_lesser (cr_rmS (by decide) (by decide)) (As := [.int (-x2), .int (I 202 v1.toNatClampNeg)]) rfl (Nat.le_of_ble_eq_true rfl) dX9_pushedIn_58 ⟨τ, (-x2), (I 202 v1.toNatClampNeg), rfl, hτ, rfl, ?_⟩
      show cr_V Γ 61 [.ref 200, .int x1, .int x2, .int v1] [.int (f_yX9_lesser τ (-x2) (I 202 v1.toNatClampNeg) I)] I (cr_rf τ) 247
      refine cr_ineg h dX9_pushedIn_61 ?_
      refine cr_goto h (tgt := 75) (by decide) dX9_pushedIn_62 ?_
      refine cr_iret h rfl rfl rfl dX9_pushedIn_75 ?_
      exact hyp
  · have hyp := hyp.2 c1
    refine cr_aload_n h (j := 0) rfl rfl dX9_pushedIn_12 ?_
    refine cr_getR h (k := 16) cr_clsX9 (by decide) rfl rfl wf_X9_56 (by decide) rfl rfl dX9_pushedIn_13 ?_
    refine cr_iload_n h (j := 3) rfl rfl dX9_pushedIn_16 ?_
    refine cs_ild h (by decide) rfl hyp.1 (q := x3.toNatClampNeg) rfl dX9_pushedIn_17 ?_
    have hyp := hyp.2
    refine cr_iload_n h (j := 1) rfl rfl dX9_pushedIn_18 ?_
    have hsJ1 := hyp.1
    have htJ1 := hyp.2.1
    have hyp := hyp.2.2
    have J1 : cr_V Γ 32 [.ref 200, .int x1, .int x2, .int x3] [.int (if (I 215 x3.toNatClampNeg) = x1 then (I 216 x3.toNatClampNeg) else x2)] I (cr_rf τ) 247 := by
      refine cs_i_n h 2 rfl (by decide) rfl dX9_pushedIn_32 (fun v2 ev2 => ?_)
      have hyp := hyp v2 ev2
      show cr_V Γ 33 [.ref 200, .int x1, .int v2, .int x3] [] I (cr_rf τ) 247
      refine cs_inc h (v := (1 : Int32)) 3 rfl (by decide) (by decide) rfl dX9_pushedIn_33 (fun v3 ev3 => ?_)
      have hyp := hyp v3 ev3
      show cr_V Γ 36 [.ref 200, .int x1, .int v2, .int v3] [] I (cr_rf τ) 247
      refine cr_goto h (tgt := 4) (by decide) dX9_pushedIn_36 ?_
      exact cr_weak [true, true, true, true] hyp
    refine cr_icmp_ne h (tgt := 31) (by decide) dX9_pushedIn_19 (fun c3 => ?_) (fun c3 => ?_)
    · refine cr_iload_n h (j := 2) rfl rfl dX9_pushedIn_31 ?_
      exact cr_ite (by rw [if_neg c3]) J1
    · have hyp := htJ1 c3
      refine cr_aload_n h (j := 0) rfl rfl dX9_pushedIn_22 ?_
      refine cr_getR h (k := 17) cr_clsX9 (by decide) rfl rfl wf_X9_59 (by decide) rfl rfl dX9_pushedIn_23 ?_
      refine cr_iload_n h (j := 3) rfl rfl dX9_pushedIn_26 ?_
      refine cs_ild h (by decide) rfl hyp.1 (q := x3.toNatClampNeg) rfl dX9_pushedIn_27 ?_
      have hyp := hyp.2
      refine cr_goto h (tgt := 32) (by decide) dX9_pushedIn_28 ?_
      exact cr_ite (by rw [if_pos c3]) J1
abbrev T_yX9_pushedIn : cr_T := fun vs I R K => ∃ (τ : Nat → Nat) (x1 : Int32), R = cr_rf τ ∧ cr_tau τ ∧ vs = [.ref 200, .int x1] ∧ p_yX9_pushedIn τ x1 I ∧ K (some (.int (f_yX9_pushedIn τ x1 I))) I (cr_rf τ)
abbrev S_yX9_pushedIn : Prop := cr_C yX9_pushedIn cX9_pushedIn 4 (some .int) (cr_rm0 1 21) 247 247 T_yX9_pushedIn
theorem G_yX9_pushedIn (H : ∀ (Γ : cr_G) (K : cr_K) (τ : Nat → Nat) (x1 : Int32) (I : cr_I), cr_tau τ → cr_Ok yX9_pushedIn cX9_pushedIn 4 (some .int) (cr_rm0 1 21) K 247 247 Γ → p_yX9_pushedIn τ x1 I → K (some (.int (f_yX9_pushedIn τ x1 I))) I (cr_rf τ) → cr_V Γ 0 [.ref 200, .int x1, .null, .null] [] I (cr_rf τ) 247) : cr_C yX9_pushedIn cX9_pushedIn 4 (some .int) (cr_rm0 1 21) 247 247 T_yX9_pushedIn := by
  refine cr_C.of (by decide +kernel) (fun vs I R K hT => ?_) (fun Γ K h vs I R hT => ?_)
  · obtain ⟨τ, x1, rfl, hτ, rfl, hp, hK⟩ := hT
    exact Nat.le_of_ble_eq_true rfl
  · obtain ⟨τ, x1, rfl, hτ, rfl, hp, hK⟩ := hT
    exact H Γ K τ x1 I hτ h hp hK
theorem C_yX9_pushedIn : S_yX9_pushedIn := G_yX9_pushedIn (by
  intro Γ K τ x1 I hτ h hp hK
  obtain ⟨hpu, hm⟩ := hp
  obtain ⟨eN, hN⟩ := cr_ofI (B := 8) hpu.1 hpu.2
  unfold f_yX9_pushedIn at hK
  generalize (I 200 18).toNatClampNeg = N at *
  refine bk_yX9_pushedIn_0 hτ h ?_
  refine cr_loop (fun k => cr_V Γ 4 [.ref 200, .int x1, .int (cr_pushS (I 215) (I 216) x1 k), .int (nI k)] [] I (cr_rf τ) 247) N ?_ ?_ 0 (Nat.zero_le _)
  · refine bk_yX9_pushedIn_4 hτ h ⟨fun _ => ?_, fun c => absurd ?_ c⟩
    · rintro v rfl
      refine ⟨fun c => ⟨hm, ?_⟩, fun c => ⟨hm, ?_⟩⟩
      · rw [if_pos c] at hK; exact hK
      · rw [if_neg c] at hK; exact hK
    · rw [eN]; exact Int32.le_refl _
  · intro k hk ih
    have hx : (0 : Int) ≤ (nI k).toInt ∧ (nI k).toInt < 8 := cr_ix (by omega) (by omega)
    refine bk_yX9_pushedIn_4 hτ h ⟨fun c => absurd c ?_, fun _ => ⟨hx, fun _ => trivial, fun _ => ⟨hx, trivial⟩, ?_⟩⟩
    · rw [eN]; exact cr_nle hk (by omega)
    · rw [cr_nc (show k < 100000 by omega)]
      rintro v rfl w rfl
      rw [nI_1]
      simpa only [cr_pushS] using ih)
def cr_mln (I : cr_I) (j : Nat) (vals : Nat → Int32) : Bool := cr_holdS vals (fun k => I 210 (4 * j + k)) (fun k => I 212 (4 * j + k)) (fun k => I 211 (4 * j + k)) (I 209 j).toNatClampNeg
def cr_mval (I : cr_I) (m j : Nat) : Int32 := if I 207 j = 0 then -(if I 202 m ≤ I 208 j then I 202 m else I 208 j) else if I 207 j = 1 then (if I 203 m ≤ I 208 j then I 203 m else I 208 j) else 0
def cr_mwb (I : cr_I) (m : Nat) (vals : Nat → Int32) : Int32 := match cr_firstS (fun l => cr_mln I (6 * m + l) vals) 0 (I 206 m).toNatClampNeg with
  | none => 0
  | some l => cr_mval I m (6 * m + l)
def cr_mtok (I : cr_I) (m : Nat) : Prop := (0 ≤ (I 206 m).toInt ∧ (I 206 m).toInt ≤ 6) ∧ ∀ l, l < (I 206 m).toNatClampNeg → (0 ≤ (I 209 (6 * m + l)).toInt ∧ (I 209 (6 * m + l)).toInt ≤ 4) ∧ ∀ k, k < (I 209 (6 * m + l)).toNatClampNeg → 0 ≤ (I 210 (4 * (6 * m + l) + k)).toInt ∧ (I 210 (4 * (6 * m + l) + k)).toInt < 6
def f_yX9_wishBy (τ : Nat → Nat) (x1 x2 x3 x4 x5 x6 : Int32) (I : cr_I) : Int32 := cr_mwb I x1.toNatClampNeg (cr_vals x2 x3 x4 x5 x6)
def p_yX9_wishBy (τ : Nat → Nat) (x1 x2 x3 x4 x5 x6 : Int32) (I : cr_I) : Prop := (0 ≤ x1.toInt ∧ x1.toInt < 4) ∧ cr_mtok I x1.toNatClampNeg
theorem cr_mrd {τ : Nat → Nat} {x2 x3 x4 x5 x6 r : Int32} {I : cr_I} (hr : 0 ≤ r.toInt ∧ r.toInt < 6) : (if r = 0 then (f_yX9_lesser τ x2 (99 : Int32) I) else (if r = (1 : Int32) then (if x3 ≤ x4 then (0 : Int32) else (x3 - x4)) else (if r = (2 : Int32) then (if x4 ≤ x3 then (0 : Int32) else (x4 - x3)) else (if r = (3 : Int32) then x3 else (if r = (4 : Int32) then x5 else x6))))) = cr_vals x2 x3 x4 x5 x6 r.toNatClampNeg := by
  obtain ⟨e, h⟩ := cr_ofI (B := 5) hr.1 (by omega)
  generalize r.toNatClampNeg = q at *
  subst e
  unfold f_yX9_lesser
  rw [cr_iten, cr_iten, cr_iten]
  rcases (show q = 0 ∨ q = 1 ∨ q = 2 ∨ q = 3 ∨ q = 4 ∨ q = 5 by omega) with rfl | rfl | rfl | rfl | rfl | rfl <;> rfl
theorem cr_mtest {b : Bool} {a v n : Int32} : (if (if b = true then (1 : Int32) else 0) = 0 then (0 : Int32) else (if a = (1 : Int32) then (if v ≤ n then (0 : Int32) else (1 : Int32)) else (if n ≤ v then (0 : Int32) else (1 : Int32)))) = if (b && (if a = 1 then decide (n.toInt < v.toInt) else decide (v.toInt < n.toInt))) = true then 1 else 0 := by
  cases b
  · rfl
  · rw [if_neg (show ¬ (if true = true then (1 : Int32) else 0) = 0 by decide), Bool.true_and]
    by_cases qa : a = 1
    · rw [if_pos qa, if_pos qa, cr_iten]
      by_cases q : n < v
      · rw [if_pos q, decide_eq_true (cr_lt.mp q)]; rfl
      · rw [if_neg q, decide_eq_false (fun z => q (cr_lt.mpr z))]; rfl
    · rw [if_neg qa, if_neg qa, cr_iten]
      by_cases q : v < n
      · rw [if_pos q, decide_eq_true (cr_lt.mp q)]; rfl
      · rw [if_neg q, decide_eq_false (fun z => q (cr_lt.mpr z))]; rfl
theorem bk_yX9_wishBy_0 {Γ : cr_G} {K : cr_K} {τ : Nat → Nat} {I : cr_I} {x1 : Int32} {x2 : Int32} {x3 : Int32} {x4 : Int32} {x5 : Int32} {x6 : Int32} (hτ : cr_tau τ)  (h : cr_Ok yX9_wishBy cX9_wishBy 12 (some .int) (cr_rm0 1 21) K 247 247 Γ) (hyp : ∀ v1 : Int32, v1 = ((6 : Int32) * x1) → cr_V Γ 6 [.ref 200, .int x1, .int x2, .int x3, .int x4, .int x5, .int x6, .int v1, .null, .null, .null, .null] [] I (cr_rf τ) 247) : cr_V Γ 0 [.ref 200, .int x1, .int x2, .int x3, .int x4, .int x5, .int x6, .null, .null, .null, .null, .null] [] I (cr_rf τ) 247 := by
  refine cr_bipush h (v := (6 : Int32)) (by decide) dX9_wishBy_0 ?_
  refine cr_iload_n h (j := 1) rfl rfl dX9_wishBy_2 ?_
  refine cr_imul h dX9_wishBy_3 ?_
  refine cs_i h 7 (by decide) rfl dX9_wishBy_4 (fun v1 ev1 => ?_)
  have hyp := hyp v1 ev1
  show cr_V Γ 6 [.ref 200, .int x1, .int x2, .int x3, .int x4, .int x5, .int x6, .int v1, .null, .null, .null, .null] [] I (cr_rf τ) 247
  exact cr_weak [true, true, true, true, true, true, true, true, false, false, false, false] hyp
theorem bk_yX9_wishBy_6 {Γ : cr_G} {K : cr_K} {τ : Nat → Nat} {I : cr_I} {x1 : Int32} {x2 : Int32} {x3 : Int32} {x4 : Int32} {x5 : Int32} {x6 : Int32} {x7 : Int32} (hτ : cr_tau τ)  (h : cr_Ok yX9_wishBy cX9_wishBy 12 (some .int) (cr_rm0 1 21) K 247 247 Γ) (hyp : (0 ≤ x1.toInt ∧ x1.toInt < 5) ∧ ((((6 : Int32) * x1) + (I 206 x1.toNatClampNeg)) ≤ x7 → K (some (.int (0 : Int32))) I (cr_rf τ)) ∧ (¬ (((6 : Int32) * x1) + (I 206 x1.toNatClampNeg)) ≤ x7 → (∀ v2 : Int32, v2 = ((4 : Int32) * x7) → cr_V Γ 31 [.ref 200, .int x1, .int x2, .int x3, .int x4, .int x5, .int x6, .int x7, .int (1 : Int32), .int v2, .null, .null] [] I (cr_rf τ) 247))) : cr_V Γ 6 [.ref 200, .int x1, .int x2, .int x3, .int x4, .int x5, .int x6, .int x7, .null, .null, .null, .null] [] I (cr_rf τ) 247 := by
  refine cr_iload h rfl dX9_wishBy_6 ?_
  refine cr_bipush h (v := (6 : Int32)) (by decide) dX9_wishBy_8 ?_
  refine cr_iload_n h (j := 1) rfl rfl dX9_wishBy_10 ?_
  refine cr_imul h dX9_wishBy_11 ?_
  refine cr_aload_n h (j := 0) rfl rfl dX9_wishBy_12 ?_
  refine cr_getR h (k := 6) cr_clsX9 (by decide) rfl rfl wf_X9_25 (by decide) rfl rfl dX9_wishBy_13 ?_
  refine cr_iload_n h (j := 1) rfl rfl dX9_wishBy_16 ?_
  refine cs_ild h (by decide) rfl hyp.1 (q := x1.toNatClampNeg) rfl dX9_wishBy_17 ?_
  have hyp := hyp.2
  refine cr_iadd h dX9_wishBy_18 ?_
  refine cr_icmp_ge h (tgt := 271) (by decide) dX9_wishBy_19 (fun c1 => ?_) (fun c1 => ?_)
  · have hyp := hyp.1 c1
    refine cr_iconst h (v := (0 : Int32)) (by decide) dX9_wishBy_271 ?_
    refine cr_iret h rfl rfl rfl dX9_wishBy_272 ?_
    exact hyp
  · have hyp := hyp.2 c1
    refine cr_iconst h (v := (1 : Int32)) (by decide) dX9_wishBy_22 ?_
    refine cr_istore h (by decide) rfl dX9_wishBy_23 ?_
    show cr_V Γ 25 [.ref 200, .int x1, .int x2, .int x3, .int x4, .int x5, .int x6, .int x7, .int (1 : Int32), .null, .null, .null] [] I (cr_rf τ) 247
    refine cr_iconst h (v := (4 : Int32)) (by decide) dX9_wishBy_25 ?_
    refine cr_iload h rfl dX9_wishBy_26 ?_
    refine cr_imul h dX9_wishBy_28 ?_
    refine cs_i h 9 (by decide) rfl dX9_wishBy_29 (fun v2 ev2 => ?_)
    have hyp := hyp v2 ev2
    show cr_V Γ 31 [.ref 200, .int x1, .int x2, .int x3, .int x4, .int x5, .int x6, .int x7, .int (1 : Int32), .int v2, .null, .null] [] I (cr_rf τ) 247
    exact cr_weak [true, true, true, true, true, true, true, true, true, true, false, false] hyp
theorem bk_yX9_wishBy_31 {Γ : cr_G} {K : cr_K} {τ : Nat → Nat} {I : cr_I} {x1 : Int32} {x2 : Int32} {x3 : Int32} {x4 : Int32} {x5 : Int32} {x6 : Int32} {x7 : Int32} {x8 : Int32} {x9 : Int32} (hτ : cr_tau τ)  (h : cr_Ok yX9_wishBy cX9_wishBy 12 (some .int) (cr_rm0 1 21) K 247 247 Γ) (hyp : (0 ≤ x7.toInt ∧ x7.toInt < 30) ∧ ((((4 : Int32) * x7) + (I 209 x7.toNatClampNeg)) ≤ x9 → ((x8 = 0 → (∀ v3 : Int32, v3 = x7 + (1 : Int32) → cr_V Γ 6 [.ref 200, .int x1, .int x2, .int x3, .int x4, .int x5, .int x6, .int v3, .null, .null, .null, .null] [] I (cr_rf τ) 247)) ∧ (¬ x8 = 0 → ((0 ≤ x7.toInt ∧ x7.toInt < 30) ∧ (¬ (I 207 x7.toNatClampNeg) = 0 → ((0 ≤ x7.toInt ∧ x7.toInt < 30) ∧ (¬ (I 207 x7.toNatClampNeg) = (1 : Int32) → K (some (.int (0 : Int32))) I (cr_rf τ)) ∧ ((I 207 x7.toNatClampNeg) = (1 : Int32) → ((0 ≤ x7.toInt ∧ x7.toInt < 30) ∧ (0 ≤ x1.toInt ∧ x1.toInt < 4) ∧ K (some (.int (f_yX9_lesser τ (I 208 x7.toNatClampNeg) (I 203 x1.toNatClampNeg) I))) I (cr_rf τ))))) ∧ ((I 207 x7.toNatClampNeg) = 0 → ((0 ≤ x7.toInt ∧ x7.toInt < 30) ∧ (0 ≤ x1.toInt ∧ x1.toInt < 4) ∧ K (some (.int (-(f_yX9_lesser τ (I 208 x7.toNatClampNeg) (I 202 x1.toNatClampNeg) I)))) I (cr_rf τ))))))) ∧ (¬ (((4 : Int32) * x7) + (I 209 x7.toNatClampNeg)) ≤ x9 → ((0 ≤ x9.toInt ∧ x9.toInt < 120) ∧ (∀ v4 : Int32, v4 = (I 210 x9.toNatClampNeg) → (∀ v5 : Int32, v5 = (if v4 = 0 then (f_yX9_lesser τ x2 (99 : Int32) I) else (if v4 = (1 : Int32) then (if x3 ≤ x4 then (0 : Int32) else (x3 - x4)) else (if v4 = (2 : Int32) then (if x4 ≤ x3 then (0 : Int32) else (x4 - x3)) else (if v4 = (3 : Int32) then x3 else (if v4 = (4 : Int32) then x5 else x6))))) → ((x8 = 0 → True) ∧ (¬ x8 = 0 → ((0 ≤ x9.toInt ∧ x9.toInt < 120) ∧ ((¬ (I 211 x9.toNatClampNeg) = (1 : Int32) → ((0 ≤ x9.toInt ∧ x9.toInt < 120) ∧ True)) ∧ ((I 211 x9.toNatClampNeg) = (1 : Int32) → ((0 ≤ x9.toInt ∧ x9.toInt < 120) ∧ True))))) ∧ (∀ v6 : Int32, v6 = (if x8 = 0 then (0 : Int32) else (if (I 211 x9.toNatClampNeg) = (1 : Int32) then (if v5 ≤ (I 212 x9.toNatClampNeg) then (0 : Int32) else (1 : Int32)) else (if (I 212 x9.toNatClampNeg) ≤ v5 then (0 : Int32) else (1 : Int32)))) → (∀ v7 : Int32, v7 = x9 + (1 : Int32) → cr_V Γ 31 [.ref 200, .int x1, .int x2, .int x3, .int x4, .int x5, .int x6, .int x7, .int v6, .int v7, .null, .null] [] I (cr_rf τ) 247)))))))) : cr_V Γ 31 [.ref 200, .int x1, .int x2, .int x3, .int x4, .int x5, .int x6, .int x7, .int x8, .int x9, .null, .null] [] I (cr_rf τ) 247 := by
  refine cr_iload h rfl dX9_wishBy_31 ?_
  refine cr_iconst h (v := (4 : Int32)) (by decide) dX9_wishBy_33 ?_
  refine cr_iload h rfl dX9_wishBy_34 ?_
  refine cr_imul h dX9_wishBy_36 ?_
  refine cr_aload_n h (j := 0) rfl rfl dX9_wishBy_37 ?_
  refine cr_getR h (k := 9) cr_clsX9 (by decide) rfl rfl wf_X9_34 (by decide) rfl rfl dX9_wishBy_38 ?_
  refine cr_iload h rfl dX9_wishBy_41 ?_
  refine cs_ild h (by decide) rfl hyp.1 (q := x7.toNatClampNeg) rfl dX9_wishBy_43 ?_
  have hyp := hyp.2
  refine cr_iadd h dX9_wishBy_44 ?_
  refine cr_icmp_ge h (tgt := 198) (by decide) dX9_wishBy_45 (fun c2 => ?_) (fun c2 => ?_)
  · have hyp := hyp.1 c2
    refine cr_iload h rfl dX9_wishBy_198 ?_
    refine cr_if_eq h (tgt := 265) (by decide) dX9_wishBy_200 (fun c3 => ?_) (fun c3 => ?_)
    · have hyp := hyp.1 c3
      refine cs_inc h (v := (1 : Int32)) 7 rfl (by decide) (by decide) rfl dX9_wishBy_265 (fun v3 ev3 => ?_)
      have hyp := hyp v3 ev3
      show cr_V Γ 268 [.ref 200, .int x1, .int x2, .int x3, .int x4, .int x5, .int x6, .int v3, .int x8, .int x9, .null, .null] [] I (cr_rf τ) 247
      refine cr_goto h (tgt := 6) (by decide) dX9_wishBy_268 ?_
      exact cr_weak [true, true, true, true, true, true, true, true, false, false, false, false] hyp
    · have hyp := hyp.2 c3
      refine cr_aload_n h (j := 0) rfl rfl dX9_wishBy_203 ?_
      refine cr_getR h (k := 7) cr_clsX9 (by decide) rfl rfl wf_X9_28 (by decide) rfl rfl dX9_wishBy_204 ?_
      refine cr_iload h rfl dX9_wishBy_207 ?_
      refine cs_ild h (by decide) rfl hyp.1 (q := x7.toNatClampNeg) rfl dX9_wishBy_209 ?_
      have hyp := hyp.2
      refine cr_if_ne h (tgt := 233) (by decide) dX9_wishBy_210 (fun c4 => ?_) (fun c4 => ?_)
      · have hyp := hyp.1 c4
        refine cr_aload_n h (j := 0) rfl rfl dX9_wishBy_233 ?_
        refine cr_getR h (k := 7) cr_clsX9 (by decide) rfl rfl wf_X9_28 (by decide) rfl rfl dX9_wishBy_234 ?_
        refine cr_iload h rfl dX9_wishBy_237 ?_
        refine cs_ild h (by decide) rfl hyp.1 (q := x7.toNatClampNeg) rfl dX9_wishBy_239 ?_
        have hyp := hyp.2
        refine cr_iconst h (v := (1 : Int32)) (by decide) dX9_wishBy_240 ?_
        refine cr_icmp_ne h (tgt := 263) (by decide) dX9_wishBy_241 (fun c5 => ?_) (fun c5 => ?_)
        · have hyp := hyp.1 c5
          refine cr_iconst h (v := (0 : Int32)) (by decide) dX9_wishBy_263 ?_
          refine cr_iret h rfl rfl rfl dX9_wishBy_264 ?_
          exact hyp
        · have hyp := hyp.2 c5
          refine cr_aload_n h (j := 0) rfl rfl dX9_wishBy_244 ?_
          refine cr_getR h (k := 8) cr_clsX9 (by decide) rfl rfl wf_X9_31 (by decide) rfl rfl dX9_wishBy_245 ?_
          refine cr_iload h rfl dX9_wishBy_248 ?_
          refine cs_ild h (by decide) rfl hyp.1 (q := x7.toNatClampNeg) rfl dX9_wishBy_250 ?_
          have hyp := hyp.2
          refine cr_aload_n h (j := 0) rfl rfl dX9_wishBy_251 ?_
          refine cr_getR h (k := 2) cr_clsX9 (by decide) rfl rfl wf_X9_16 (by decide) rfl rfl dX9_wishBy_252 ?_
          refine cr_iload_n h (j := 1) rfl rfl dX9_wishBy_255 ?_
          refine cs_ild h (by decide) rfl hyp.1 (q := x1.toNatClampNeg) rfl dX9_wishBy_256 ?_
          have hyp := hyp.2
          refine cr_callS h C_yX9_lesser cZ_yX9_lesser wm_X9_280 ws_yX9_lesser (cr_rmS (by decide) (by decide)) (As := [.int (I 208 x7.toNatClampNeg), .int (I 203 x1.toNatClampNeg)]) rfl (Nat.le_of_ble_eq_true rfl) dX9_wishBy_257 ⟨τ, (I 208 x7.toNatClampNeg), (I 203 x1.toNatClampNeg), rfl, hτ, rfl, ?_⟩
          show cr_V Γ 260 [.ref 200, .int x1, .int x2, .int x3, .int x4, .int x5, .int x6, .int x7, .int x8, .int x9, .null, .null] [.int (f_yX9_lesser τ (I 208 x7.toNatClampNeg) (I 203 x1.toNatClampNeg) I)] I (cr_rf τ) 247
          refine cr_goto h (tgt := 264) (by decide) dX9_wishBy_260 ?_
          refine cr_iret h rfl rfl rfl dX9_wishBy_264 ?_
          exact hyp
      · have hyp := hyp.2 c4
        refine cr_aload_n h (j := 0) rfl rfl dX9_wishBy_213 ?_
        refine cr_getR h (k := 8) cr_clsX9 (by decide) rfl rfl wf_X9_31 (by decide) rfl rfl dX9_wishBy_214 ?_
        refine cr_iload h rfl dX9_wishBy_217 ?_
        refine cs_ild h (by decide) rfl hyp.1 (q := x7.toNatClampNeg) rfl dX9_wishBy_219 ?_
        have hyp := hyp.2
        refine cr_aload_n h (j := 0) rfl rfl dX9_wishBy_220 ?_
        refine cr_getR h (k := 1) cr_clsX9 (by decide) rfl rfl wf_X9_13 (by decide) rfl rfl dX9_wishBy_221 ?_
        refine cr_iload_n h (j := 1) rfl rfl dX9_wishBy_224 ?_
        refine cs_ild h (by decide) rfl hyp.1 (q := x1.toNatClampNeg) rfl dX9_wishBy_225 ?_
        have hyp := hyp.2
        refine cr_callS h C_yX9_lesser cZ_yX9_lesser wm_X9_280 ws_yX9_lesser (cr_rmS (by decide) (by decide)) (As := [.int (I 208 x7.toNatClampNeg), .int (I 202 x1.toNatClampNeg)]) rfl (Nat.le_of_ble_eq_true rfl) dX9_wishBy_226 ⟨τ, (I 208 x7.toNatClampNeg), (I 202 x1.toNatClampNeg), rfl, hτ, rfl, ?_⟩
        show cr_V Γ 229 [.ref 200, .int x1, .int x2, .int x3, .int x4, .int x5, .int x6, .int x7, .int x8, .int x9, .null, .null] [.int (f_yX9_lesser τ (I 208 x7.toNatClampNeg) (I 202 x1.toNatClampNeg) I)] I (cr_rf τ) 247
        refine cr_ineg h dX9_wishBy_229 ?_
        refine cr_goto h (tgt := 264) (by decide) dX9_wishBy_230 ?_
        refine cr_iret h rfl rfl rfl dX9_wishBy_264 ?_
        exact hyp
  · have hyp := hyp.2 c2
    refine cr_aload_n h (j := 0) rfl rfl dX9_wishBy_48 ?_
    refine cr_getR h (k := 10) cr_clsX9 (by decide) rfl rfl wf_X9_37 (by decide) rfl rfl dX9_wishBy_49 ?_
    refine cr_iload h rfl dX9_wishBy_52 ?_
    refine cs_ild h (by decide) rfl hyp.1 (q := x9.toNatClampNeg) rfl dX9_wishBy_54 ?_
    have hyp := hyp.2
    refine cs_i h 10 (by decide) rfl dX9_wishBy_55 (fun v4 ev4 => ?_)
    have hyp := hyp v4 ev4
    show cr_V Γ 57 [.ref 200, .int x1, .int x2, .int x3, .int x4, .int x5, .int x6, .int x7, .int x8, .int x9, .int v4, .null] [] I (cr_rf τ) 247
    refine cr_iload h rfl dX9_wishBy_57 ?_
    have J2 : cr_V Γ 140 [.ref 200, .int x1, .int x2, .int x3, .int x4, .int x5, .int x6, .int x7, .int x8, .int x9, .int v4, .null] [.int (if v4 = 0 then (f_yX9_lesser τ x2 (99 : Int32) I) else (if v4 = (1 : Int32) then (if x3 ≤ x4 then (0 : Int32) else (x3 - x4)) else (if v4 = (2 : Int32) then (if x4 ≤ x3 then (0 : Int32) else (x4 - x3)) else (if v4 = (3 : Int32) then x3 else (if v4 = (4 : Int32) then x5 else x6)))))] I (cr_rf τ) 247 := by
      refine cs_i h 11 (by decide) rfl dX9_wishBy_140 (fun v5 ev5 => ?_)
      have hyp := hyp v5 ev5
      show cr_V Γ 142 [.ref 200, .int x1, .int x2, .int x3, .int x4, .int x5, .int x6, .int x7, .int x8, .int x9, .int v4, .int v5] [] I (cr_rf τ) 247
      refine cr_iload h rfl dX9_wishBy_142 ?_
      have hsJ1 := hyp.1
      have htJ1 := hyp.2.1
      have hyp := hyp.2.2
      have J1 : cr_V Γ 190 [.ref 200, .int x1, .int x2, .int x3, .int x4, .int x5, .int x6, .int x7, .int x8, .int x9, .int v4, .int v5] [.int (if x8 = 0 then (0 : Int32) else (if (I 211 x9.toNatClampNeg) = (1 : Int32) then (if v5 ≤ (I 212 x9.toNatClampNeg) then (0 : Int32) else (1 : Int32)) else (if (I 212 x9.toNatClampNeg) ≤ v5 then (0 : Int32) else (1 : Int32))))] I (cr_rf τ) 247 := by
        refine cs_i h 8 (by decide) rfl dX9_wishBy_190 (fun v6 ev6 => ?_)
        have hyp := hyp v6 ev6
        show cr_V Γ 192 [.ref 200, .int x1, .int x2, .int x3, .int x4, .int x5, .int x6, .int x7, .int v6, .int x9, .int v4, .int v5] [] I (cr_rf τ) 247
        refine cs_inc h (v := (1 : Int32)) 9 rfl (by decide) (by decide) rfl dX9_wishBy_192 (fun v7 ev7 => ?_)
        have hyp := hyp v7 ev7
        show cr_V Γ 195 [.ref 200, .int x1, .int x2, .int x3, .int x4, .int x5, .int x6, .int x7, .int v6, .int v7, .int v4, .int v5] [] I (cr_rf τ) 247
        refine cr_goto h (tgt := 31) (by decide) dX9_wishBy_195 ?_
        exact cr_weak [true, true, true, true, true, true, true, true, true, true, false, false] hyp
      refine cr_if_eq h (tgt := 189) (by decide) dX9_wishBy_144 (fun c13 => ?_) (fun c13 => ?_)
      · refine cr_iconst h (v := (0 : Int32)) (by decide) dX9_wishBy_189 ?_
        exact cr_ite (by rw [if_pos c13]) J1
      · have hyp := htJ1 c13
        refine cr_aload_n h (j := 0) rfl rfl dX9_wishBy_147 ?_
        refine cr_getR h (k := 11) cr_clsX9 (by decide) rfl rfl wf_X9_40 (by decide) rfl rfl dX9_wishBy_148 ?_
        refine cr_iload h rfl dX9_wishBy_151 ?_
        refine cs_ild h (by decide) rfl hyp.1 (q := x9.toNatClampNeg) rfl dX9_wishBy_153 ?_
        have hyp := hyp.2
        refine cr_iconst h (v := (1 : Int32)) (by decide) dX9_wishBy_154 ?_
        refine cr_icmp_ne h (tgt := 173) (by decide) dX9_wishBy_155 (fun c14 => ?_) (fun c14 => ?_)
        · have hyp := hyp.1 c14
          refine cr_iload h rfl dX9_wishBy_173 ?_
          refine cr_aload_n h (j := 0) rfl rfl dX9_wishBy_175 ?_
          refine cr_getR h (k := 12) cr_clsX9 (by decide) rfl rfl wf_X9_43 (by decide) rfl rfl dX9_wishBy_176 ?_
          refine cr_iload h rfl dX9_wishBy_179 ?_
          refine cs_ild h (by decide) rfl hyp.1 (q := x9.toNatClampNeg) rfl dX9_wishBy_181 ?_
          have hyp := hyp.2
          refine cr_icmp_ge h (tgt := 189) (by decide) dX9_wishBy_182 (fun c15 => ?_) (fun c15 => ?_)
          · refine cr_iconst h (v := (0 : Int32)) (by decide) dX9_wishBy_189 ?_
            exact cr_ite (by rw [if_neg c13, if_neg c14, if_pos c15]) J1
          · refine cr_iconst h (v := (1 : Int32)) (by decide) dX9_wishBy_185 ?_
            refine cr_goto h (tgt := 190) (by decide) dX9_wishBy_186 ?_
            exact cr_ite (by rw [if_neg c13, if_neg c14, if_neg c15]) J1
        · have hyp := hyp.2 c14
          refine cr_iload h rfl dX9_wishBy_158 ?_
          refine cr_aload_n h (j := 0) rfl rfl dX9_wishBy_160 ?_
          refine cr_getR h (k := 12) cr_clsX9 (by decide) rfl rfl wf_X9_43 (by decide) rfl rfl dX9_wishBy_161 ?_
          refine cr_iload h rfl dX9_wishBy_164 ?_
          refine cs_ild h (by decide) rfl hyp.1 (q := x9.toNatClampNeg) rfl dX9_wishBy_166 ?_
          have hyp := hyp.2
          refine cr_icmp_le h (tgt := 189) (by decide) dX9_wishBy_167 (fun c16 => ?_) (fun c16 => ?_)
          · refine cr_iconst h (v := (0 : Int32)) (by decide) dX9_wishBy_189 ?_
            exact cr_ite (by rw [if_neg c13, if_pos c14, if_pos c16]) J1
          · refine cr_goto h (tgt := 185) (by decide) dX9_wishBy_170 ?_
            refine cr_iconst h (v := (1 : Int32)) (by decide) dX9_wishBy_185 ?_
            refine cr_goto h (tgt := 190) (by decide) dX9_wishBy_186 ?_
            exact cr_ite (by rw [if_neg c13, if_pos c14, if_neg c16]) J1
    refine cr_if_ne h (tgt := 71) (by decide) dX9_wishBy_59 (fun c6 => ?_) (fun c6 => ?_)
    · refine cr_iload h rfl dX9_wishBy_71 ?_
      refine cr_iconst h (v := (1 : Int32)) (by decide) dX9_wishBy_73 ?_
      refine cr_icmp_ne h (tgt := 94) (by decide) dX9_wishBy_74 (fun c7 => ?_) (fun c7 => ?_)
      · refine cr_iload h rfl dX9_wishBy_94 ?_
        refine cr_iconst h (v := (2 : Int32)) (by decide) dX9_wishBy_96 ?_
        refine cr_icmp_ne h (tgt := 117) (by decide) dX9_wishBy_97 (fun c8 => ?_) (fun c8 => ?_)
        · refine cr_iload h rfl dX9_wishBy_117 ?_
          refine cr_iconst h (v := (3 : Int32)) (by decide) dX9_wishBy_119 ?_
          refine cr_icmp_ne h (tgt := 127) (by decide) dX9_wishBy_120 (fun c9 => ?_) (fun c9 => ?_)
          · refine cr_iload h rfl dX9_wishBy_127 ?_
            refine cr_iconst h (v := (4 : Int32)) (by decide) dX9_wishBy_129 ?_
            refine cr_icmp_ne h (tgt := 138) (by decide) dX9_wishBy_130 (fun c10 => ?_) (fun c10 => ?_)
            · refine cr_iload h rfl dX9_wishBy_138 ?_
              exact cr_ite (by rw [if_neg c6, if_neg c7, if_neg c8, if_neg c9, if_neg c10]) J2
            · refine cr_iload h rfl dX9_wishBy_133 ?_
              refine cr_goto h (tgt := 140) (by decide) dX9_wishBy_135 ?_
              exact cr_ite (by rw [if_neg c6, if_neg c7, if_neg c8, if_neg c9, if_pos c10]) J2
          · refine cr_iload_n h (j := 3) rfl rfl dX9_wishBy_123 ?_
            refine cr_goto h (tgt := 140) (by decide) dX9_wishBy_124 ?_
            exact cr_ite (by rw [if_neg c6, if_neg c7, if_neg c8, if_pos c9]) J2
        · refine cr_iload h rfl dX9_wishBy_100 ?_
          refine cr_iload_n h (j := 3) rfl rfl dX9_wishBy_102 ?_
          refine cr_icmp_le h (tgt := 113) (by decide) dX9_wishBy_103 (fun c11 => ?_) (fun c11 => ?_)
          · refine cr_iconst h (v := (0 : Int32)) (by decide) dX9_wishBy_113 ?_
            refine cr_goto h (tgt := 140) (by decide) dX9_wishBy_114 ?_
            exact cr_ite (by rw [if_neg c6, if_neg c7, if_pos c8, if_pos c11]) J2
          · refine cr_iload h rfl dX9_wishBy_106 ?_
            refine cr_iload_n h (j := 3) rfl rfl dX9_wishBy_108 ?_
            refine cr_isub h dX9_wishBy_109 ?_
            refine cr_goto h (tgt := 140) (by decide) dX9_wishBy_110 ?_
            exact cr_ite (by rw [if_neg c6, if_neg c7, if_pos c8, if_neg c11]) J2
      · refine cr_iload_n h (j := 3) rfl rfl dX9_wishBy_77 ?_
        refine cr_iload h rfl dX9_wishBy_78 ?_
        refine cr_icmp_le h (tgt := 90) (by decide) dX9_wishBy_80 (fun c12 => ?_) (fun c12 => ?_)
        · refine cr_iconst h (v := (0 : Int32)) (by decide) dX9_wishBy_90 ?_
          refine cr_goto h (tgt := 140) (by decide) dX9_wishBy_91 ?_
          exact cr_ite (by rw [if_neg c6, if_pos c7, if_pos c12]) J2
        · refine cr_iload_n h (j := 3) rfl rfl dX9_wishBy_83 ?_
          refine cr_iload h rfl dX9_wishBy_84 ?_
          refine cr_isub h dX9_wishBy_86 ?_
          refine cr_goto h (tgt := 140) (by decide) dX9_wishBy_87 ?_
          exact cr_ite (by rw [if_neg c6, if_pos c7, if_neg c12]) J2
    · refine cr_iload_n h (j := 2) rfl rfl dX9_wishBy_62 ?_
      refine cr_bipush h (v := (99 : Int32)) (by decide) dX9_wishBy_63 ?_
      refine cr_callS h C_yX9_lesser cZ_yX9_lesser wm_X9_280 ws_yX9_lesser (cr_rmS (by decide) (by decide)) (As := [.int x2, .int (99 : Int32)]) rfl (Nat.le_of_ble_eq_true rfl) dX9_wishBy_65 ⟨τ, x2, (99 : Int32), rfl, hτ, rfl, ?_⟩
      show cr_V Γ 68 [.ref 200, .int x1, .int x2, .int x3, .int x4, .int x5, .int x6, .int x7, .int x8, .int x9, .int v4, .null] [.int (f_yX9_lesser τ x2 (99 : Int32) I)] I (cr_rf τ) 247
      refine cr_goto h (tgt := 140) (by decide) dX9_wishBy_68 ?_
      exact cr_ite (by rw [if_pos c6]) J2
abbrev T_yX9_wishBy : cr_T := fun vs I R K => ∃ (τ : Nat → Nat) (x1 : Int32) (x2 : Int32) (x3 : Int32) (x4 : Int32) (x5 : Int32) (x6 : Int32), R = cr_rf τ ∧ cr_tau τ ∧ vs = [.ref 200, .int x1, .int x2, .int x3, .int x4, .int x5, .int x6] ∧ p_yX9_wishBy τ x1 x2 x3 x4 x5 x6 I ∧ K (some (.int (f_yX9_wishBy τ x1 x2 x3 x4 x5 x6 I))) I (cr_rf τ)
abbrev S_yX9_wishBy : Prop := cr_C yX9_wishBy cX9_wishBy 12 (some .int) (cr_rm0 1 21) 247 247 T_yX9_wishBy
theorem G_yX9_wishBy (H : ∀ (Γ : cr_G) (K : cr_K) (τ : Nat → Nat) (x1 : Int32) (x2 : Int32) (x3 : Int32) (x4 : Int32) (x5 : Int32) (x6 : Int32) (I : cr_I), cr_tau τ → cr_Ok yX9_wishBy cX9_wishBy 12 (some .int) (cr_rm0 1 21) K 247 247 Γ → p_yX9_wishBy τ x1 x2 x3 x4 x5 x6 I → K (some (.int (f_yX9_wishBy τ x1 x2 x3 x4 x5 x6 I))) I (cr_rf τ) → cr_V Γ 0 [.ref 200, .int x1, .int x2, .int x3, .int x4, .int x5, .int x6, .null, .null, .null, .null, .null] [] I (cr_rf τ) 247) : cr_C yX9_wishBy cX9_wishBy 12 (some .int) (cr_rm0 1 21) 247 247 T_yX9_wishBy := by
  refine cr_C.of (by decide +kernel) (fun vs I R K hT => ?_) (fun Γ K h vs I R hT => ?_)
  · obtain ⟨τ, x1, x2, x3, x4, x5, x6, rfl, hτ, rfl, hp, hK⟩ := hT
    exact Nat.le_of_ble_eq_true rfl
  · obtain ⟨τ, x1, x2, x3, x4, x5, x6, rfl, hτ, rfl, hp, hK⟩ := hT
    exact H Γ K τ x1 x2 x3 x4 x5 x6 I hτ h hp hK
theorem C_yX9_wishBy : S_yX9_wishBy := G_yX9_wishBy (by
  intro Γ K τ x1 x2 x3 x4 x5 x6 I hτ h hp hK
  obtain ⟨hm, hN0, hl⟩ := hp
  obtain ⟨e1, hm3⟩ := cr_ofI (B := 3) hm.1 (by omega)
  have hm5 : 0 ≤ x1.toInt ∧ x1.toInt < 5 := by omega
  unfold f_yX9_wishBy cr_mwb at hK
  generalize x1.toNatClampNeg = m at *
  obtain ⟨eN, hN⟩ := cr_ofI (B := 6) hN0.1 hN0.2
  generalize (I 206 m).toNatClampNeg = N at *
  refine bk_yX9_wishBy_0 hτ h ?_
  rw [e1, show (6 : Int32) * nI m = nI (6 * m) from pk_mul 6 m]
  rintro v rfl
  have e1' : (nI m).toNatClampNeg = m := cr_nc (by omega)
  rw [e1] at hm hm5
  have key : ∀ q l, l + q = N → cr_firstS (fun l => cr_mln I (6 * m + l) (cr_vals x2 x3 x4 x5 x6)) 0 N = cr_firstS (fun l => cr_mln I (6 * m + l) (cr_vals x2 x3 x4 x5 x6)) l q → cr_V Γ 6 [.ref 200, .int (nI m), .int x2, .int x3, .int x4, .int x5, .int x6, .int (nI (6 * m + l)), .null, .null, .null, .null] [] I (cr_rf τ) 247 := by
    intro q
    induction q with
    | zero =>
      intro l hlq he
      refine bk_yX9_wishBy_6 hτ h ⟨hm5, fun _ => ?_, fun c => absurd ?_ c⟩
      · rw [he] at hK
        exact hK
      · rw [e1', eN, show (6 : Int32) * nI m = nI (6 * m) from pk_mul 6 m, nI_add, show N = l by omega]; exact Int32.le_refl _
    | succ q ih =>
      intro l hlq he
      obtain ⟨ht0, hr⟩ := hl l (by omega)
      have hj : 6 * m + l < 30 := by omega
      have hxj : (0 : Int) ≤ (nI (6 * m + l)).toInt ∧ (nI (6 * m + l)).toInt < 30 := cr_ix (by omega) (by omega)
      obtain ⟨eT, hT⟩ := cr_ofI (B := 4) ht0.1 ht0.2
      refine bk_yX9_wishBy_6 hτ h ⟨hm5, fun c => absurd c ?_, fun _ => ?_⟩
      · rw [e1', eN, show (6 : Int32) * nI m = nI (6 * m) from pk_mul 6 m, nI_add]; exact cr_nle (by omega) (by omega)
      · rw [show (4 : Int32) * nI (6 * m + l) = nI (4 * (6 * m + l)) from pk_mul 4 _]
        rintro v rfl
        have hjc : (nI (6 * m + l)).toNatClampNeg = 6 * m + l := cr_nc (by omega)
        unfold cr_mln at he hK ih
        generalize hje : 6 * m + l = j at *
        refine cr_loop (fun k => cr_V Γ 31 [.ref 200, .int (nI m), .int x2, .int x3, .int x4, .int x5, .int x6, .int (nI j), .int (if cr_holdS (cr_vals x2 x3 x4 x5 x6) (fun k => I 210 (4 * j + k)) (fun k => I 212 (4 * j + k)) (fun k => I 211 (4 * j + k)) k = true then 1 else 0), .int (nI (4 * j + k)), .null, .null] [] I (cr_rf τ) 247) (I 209 j).toNatClampNeg ?_ ?_ 0 (Nat.zero_le _)
        · refine bk_yX9_wishBy_31 hτ h ⟨hxj, fun _ => ?_, fun c => absurd ?_ c⟩
          · rw [cr_firstS] at he
            have hje' : 6 * m + l = j := hje
            by_cases hh : cr_holdS (cr_vals x2 x3 x4 x5 x6) (fun k => I 210 (4 * j + k)) (fun k => I 212 (4 * j + k)) (fun k => I 211 (4 * j + k)) (I 209 j).toNatClampNeg = true
            · rw [if_pos (by rw [hje']; exact hh)] at he
              rw [he] at hK
              have hK : K (some (.int (cr_mval I m (6 * m + l)))) I (cr_rf τ) := hK
              rw [hje'] at hK
              unfold cr_mval at hK
              rw [if_pos hh, hjc, e1']
              refine ⟨fun z => absurd z (by decide), fun _ => ⟨hxj, fun c => ⟨hxj, fun d => ?_, fun d => ⟨hxj, hm, ?_⟩⟩, fun c => ⟨hxj, hm, ?_⟩⟩⟩
              · rw [if_neg c, if_neg d] at hK; exact hK
              · rw [if_neg c, if_pos d] at hK; exact hK
              · rw [if_pos c] at hK; exact hK
            · rw [if_neg (by rw [hje']; exact hh)] at he
              rw [if_neg hh]
              refine ⟨fun _ => ?_, fun z => absurd rfl z⟩
              rintro v rfl
              have := ih (l + 1) (by omega) he
              rw [nI_1, ← hje']
              exact this
          · rw [hjc, eT, show (4 : Int32) * nI j = nI (4 * j) from pk_mul 4 j, nI_add, cr_nc (show (I 209 j).toNatClampNeg < 100000 by omega)]; exact Int32.le_refl _
        · intro k hk ih2
          have hxk : (0 : Int) ≤ (nI (4 * j + k)).toInt ∧ (nI (4 * j + k)).toInt < 120 := cr_ix (by omega) (by omega)
          refine bk_yX9_wishBy_31 hτ h ⟨hxj, fun c => absurd c ?_, fun _ => ⟨hxk, ?_⟩⟩
          · rw [hjc, eT, show (4 : Int32) * nI j = nI (4 * j) from pk_mul 4 j, nI_add]; exact cr_nle (by omega) (by omega)
          · rw [cr_nc (show 4 * j + k < 100000 by omega)]
            rintro v4 rfl
            rw [cr_mrd (hr k hk)]
            rintro v5 rfl
            refine ⟨fun _ => trivial, fun _ => ⟨hxk, fun _ => ⟨hxk, trivial⟩, fun _ => ⟨hxk, trivial⟩⟩, ?_⟩
            rw [cr_mtest]
            rintro v6 rfl v7 rfl
            rw [nI_1]
            exact ih2
  exact key N 0 (by omega) rfl)
def f_yX9_slopeFor (τ : Nat → Nat) (x1 : Int32) (I : cr_I) : Int32 := cr_slopeS (I 217) (I 218) (I 219) (I 220) (I 201 (I 213 x1.toNatClampNeg).toNatClampNeg) (I 242 x1.toNatClampNeg) (I 200 24).toNatClampNeg
def p_yX9_slopeFor (τ : Nat → Nat) (x1 : Int32) (I : cr_I) : Prop := (0 ≤ x1.toInt ∧ x1.toInt < 6) ∧ (0 ≤ (I 213 x1.toNatClampNeg).toInt ∧ (I 213 x1.toNatClampNeg).toInt < 4) ∧ (0 ≤ (I 200 24).toInt ∧ (I 200 24).toInt ≤ 2)
theorem bk_yX9_slopeFor_0 {Γ : cr_G} {K : cr_K} {τ : Nat → Nat} {I : cr_I} {x1 : Int32} (hτ : cr_tau τ)  (h : cr_Ok yX9_slopeFor cX9_slopeFor 5 (some .int) (cr_rm0 1 25) K 247 247 Γ) (hyp : cr_V Γ 5 [.ref 200, .int x1, .int (40 : Int32), .int (0 : Int32), .null] [] I (cr_rf τ) 247) : cr_V Γ 0 [.ref 200, .int x1, .null, .null, .null] [] I (cr_rf τ) 247 := by
  refine cr_bipush h (v := (40 : Int32)) (by decide) dX9_slopeFor_0 ?_
  refine cr_istore_n h (j := 2) rfl (by decide) rfl dX9_slopeFor_2 ?_
  show cr_V Γ 3 [.ref 200, .int x1, .int (40 : Int32), .null, .null] [] I (cr_rf τ) 247
  refine cr_iconst h (v := (0 : Int32)) (by decide) dX9_slopeFor_3 ?_
  refine cr_istore_n h (j := 3) rfl (by decide) rfl dX9_slopeFor_4 ?_
  show cr_V Γ 5 [.ref 200, .int x1, .int (40 : Int32), .int (0 : Int32), .null] [] I (cr_rf τ) 247
  exact cr_weak [true, true, true, true, false] hyp
theorem bk_yX9_slopeFor_5 {Γ : cr_G} {K : cr_K} {τ : Nat → Nat} {I : cr_I} {x1 : Int32} {x2 : Int32} {x3 : Int32} (hτ : cr_tau τ)  (h : cr_Ok yX9_slopeFor cX9_slopeFor 5 (some .int) (cr_rm0 1 25) K 247 247 Γ) (hyp : ((I 200 24) ≤ x3 → K (some (.int x2)) I (cr_rf τ)) ∧ (¬ (I 200 24) ≤ x3 → ((0 ≤ x1.toInt ∧ x1.toInt < 6) ∧ (0 ≤ (I 213 x1.toNatClampNeg).toInt ∧ (I 213 x1.toNatClampNeg).toInt < 4) ∧ (0 ≤ x3.toInt ∧ x3.toInt < 2) ∧ ((I 201 (I 213 x1.toNatClampNeg).toNatClampNeg) ≤ (I 219 x3.toNatClampNeg) → True) ∧ (¬ (I 201 (I 213 x1.toNatClampNeg).toNatClampNeg) ≤ (I 219 x3.toNatClampNeg) → ((0 ≤ x1.toInt ∧ x1.toInt < 6) ∧ ((0 ≤ x3.toInt ∧ x3.toInt < 2) ∧ ((0 ≤ x3.toInt ∧ x3.toInt < 2) ∧ True)))) ∧ (∀ v1 : Int32, v1 = (if (I 201 (I 213 x1.toNatClampNeg).toNatClampNeg) ≤ (I 219 x3.toNatClampNeg) then (0 : Int32) else (if (f_yX9_in τ ((I 242 x1.toNatClampNeg).toInt64) ((I 217 x3.toNatClampNeg).toInt64) ((I 218 x3.toNatClampNeg).toInt64) I) = 0 then (0 : Int32) else (1 : Int32))) → ((v1 = 0 → True) ∧ (¬ v1 = 0 → ((0 ≤ x3.toInt ∧ x3.toInt < 2) ∧ True)) ∧ (∀ v2 : Int32, v2 = (if v1 = 0 then x2 else (f_yX9_lesser τ x2 (I 220 x3.toNatClampNeg) I)) → (∀ v3 : Int32, v3 = x3 + (1 : Int32) → cr_V Γ 5 [.ref 200, .int x1, .int v2, .int v3, .null] [] I (cr_rf τ) 247))))))) : cr_V Γ 5 [.ref 200, .int x1, .int x2, .int x3, .null] [] I (cr_rf τ) 247 := by
  refine cr_iload_n h (j := 3) rfl rfl dX9_slopeFor_5 ?_
  refine cr_aload_n h (j := 0) rfl rfl dX9_slopeFor_6 ?_
  refine cr_getI h (k := 24) cr_clsX9 (by decide) rfl rfl wf_X9_262 (by decide) rfl dX9_slopeFor_7 ?_
  refine cr_icmp_ge h (tgt := 93) (by decide) dX9_slopeFor_10 (fun c1 => ?_) (fun c1 => ?_)
  · have hyp := hyp.1 c1
    refine cr_iload_n h (j := 2) rfl rfl dX9_slopeFor_93 ?_
    refine cr_iret h rfl rfl rfl dX9_slopeFor_94 ?_
    exact hyp
  · have hyp := hyp.2 c1
    refine cr_aload_n h (j := 0) rfl rfl dX9_slopeFor_13 ?_
    refine cr_getR h (k := 0) cr_clsX9 (by decide) rfl rfl wf_X9_7 (by decide) rfl rfl dX9_slopeFor_14 ?_
    refine cr_aload_n h (j := 0) rfl rfl dX9_slopeFor_17 ?_
    refine cr_getR h (k := 14) cr_clsX9 (by decide) rfl rfl wf_X9_50 (by decide) rfl rfl dX9_slopeFor_18 ?_
    refine cr_iload_n h (j := 1) rfl rfl dX9_slopeFor_21 ?_
    refine cs_ild h (by decide) rfl hyp.1 (q := x1.toNatClampNeg) rfl dX9_slopeFor_22 ?_
    have hyp := hyp.2
    refine cs_ild h (by decide) rfl hyp.1 (q := (I 213 x1.toNatClampNeg).toNatClampNeg) rfl dX9_slopeFor_23 ?_
    have hyp := hyp.2
    refine cr_aload_n h (j := 0) rfl rfl dX9_slopeFor_24 ?_
    refine cr_getR h (k := 22) cr_clsX9 (by decide) rfl rfl wf_X9_68 (by decide) rfl rfl dX9_slopeFor_25 ?_
    refine cr_iload_n h (j := 3) rfl rfl dX9_slopeFor_28 ?_
    refine cs_ild h (by decide) rfl hyp.1 (q := x3.toNatClampNeg) rfl dX9_slopeFor_29 ?_
    have hyp := hyp.2
    have hsJ2 := hyp.1
    have htJ2 := hyp.2.1
    have hyp := hyp.2.2
    have J2 : cr_V Γ 65 [.ref 200, .int x1, .int x2, .int x3, .null] [.int (if (I 201 (I 213 x1.toNatClampNeg).toNatClampNeg) ≤ (I 219 x3.toNatClampNeg) then (0 : Int32) else (if (f_yX9_in τ ((I 242 x1.toNatClampNeg).toInt64) ((I 217 x3.toNatClampNeg).toInt64) ((I 218 x3.toNatClampNeg).toInt64) I) = 0 then (0 : Int32) else (1 : Int32)))] I (cr_rf τ) 247 := by
      refine cs_i h 4 (by decide) rfl dX9_slopeFor_65 (fun v1 ev1 => ?_)
      have hyp := hyp v1 ev1
      show cr_V Γ 67 [.ref 200, .int x1, .int x2, .int x3, .int v1] [] I (cr_rf τ) 247
      refine cr_iload h rfl dX9_slopeFor_67 ?_
      have hsJ1 := hyp.1
      have htJ1 := hyp.2.1
      have hyp := hyp.2.2
      have J1 : cr_V Γ 86 [.ref 200, .int x1, .int x2, .int x3, .int v1] [.int (if v1 = 0 then x2 else (f_yX9_lesser τ x2 (I 220 x3.toNatClampNeg) I))] I (cr_rf τ) 247 := by
        refine cs_i_n h 2 rfl (by decide) rfl dX9_slopeFor_86 (fun v2 ev2 => ?_)
        have hyp := hyp v2 ev2
        show cr_V Γ 87 [.ref 200, .int x1, .int v2, .int x3, .int v1] [] I (cr_rf τ) 247
        refine cs_inc h (v := (1 : Int32)) 3 rfl (by decide) (by decide) rfl dX9_slopeFor_87 (fun v3 ev3 => ?_)
        have hyp := hyp v3 ev3
        show cr_V Γ 90 [.ref 200, .int x1, .int v2, .int v3, .int v1] [] I (cr_rf τ) 247
        refine cr_goto h (tgt := 5) (by decide) dX9_slopeFor_90 ?_
        exact cr_weak [true, true, true, true, false] hyp
      refine cr_if_eq h (tgt := 85) (by decide) dX9_slopeFor_69 (fun c4 => ?_) (fun c4 => ?_)
      · refine cr_iload_n h (j := 2) rfl rfl dX9_slopeFor_85 ?_
        exact cr_ite (by rw [if_pos c4]) J1
      · have hyp := htJ1 c4
        refine cr_iload_n h (j := 2) rfl rfl dX9_slopeFor_72 ?_
        refine cr_aload_n h (j := 0) rfl rfl dX9_slopeFor_73 ?_
        refine cr_getR h (k := 23) cr_clsX9 (by decide) rfl rfl wf_X9_71 (by decide) rfl rfl dX9_slopeFor_74 ?_
        refine cr_iload_n h (j := 3) rfl rfl dX9_slopeFor_77 ?_
        refine cs_ild h (by decide) rfl hyp.1 (q := x3.toNatClampNeg) rfl dX9_slopeFor_78 ?_
        have hyp := hyp.2
        refine cr_callS h C_yX9_lesser cZ_yX9_lesser wm_X9_280 ws_yX9_lesser (cr_rmS (by decide) (by decide)) (As := [.int x2, .int (I 220 x3.toNatClampNeg)]) rfl (Nat.le_of_ble_eq_true rfl) dX9_slopeFor_79 ⟨τ, x2, (I 220 x3.toNatClampNeg), rfl, hτ, rfl, ?_⟩
        show cr_V Γ 82 [.ref 200, .int x1, .int x2, .int x3, .int v1] [.int (f_yX9_lesser τ x2 (I 220 x3.toNatClampNeg) I)] I (cr_rf τ) 247
        refine cr_goto h (tgt := 86) (by decide) dX9_slopeFor_82 ?_
        exact cr_ite (by rw [if_neg c4]) J1
    refine cr_icmp_le h (tgt := 64) (by decide) dX9_slopeFor_30 (fun c2 => ?_) (fun c2 => ?_)
    · refine cr_iconst h (v := (0 : Int32)) (by decide) dX9_slopeFor_64 ?_
      exact cr_ite (by rw [if_pos c2]) J2
    · have hyp := htJ2 c2
      refine cr_aload_n h (j := 0) rfl rfl dX9_slopeFor_33 ?_
      refine cr_getR h (k := 59) cr_clsX9 (by decide) rfl rfl wf_X9_137 (by decide) rfl rfl dX9_slopeFor_34 ?_
      refine cr_iload_n h (j := 1) rfl rfl dX9_slopeFor_37 ?_
      refine cs_ild h (by decide) rfl hyp.1 (q := x1.toNatClampNeg) rfl dX9_slopeFor_38 ?_
      have hyp := hyp.2
      refine cr_i2l h dX9_slopeFor_39 ?_
      refine cr_aload_n h (j := 0) rfl rfl dX9_slopeFor_40 ?_
      refine cr_getR h (k := 20) cr_clsX9 (by decide) rfl rfl wf_X9_62 (by decide) rfl rfl dX9_slopeFor_41 ?_
      refine cr_iload_n h (j := 3) rfl rfl dX9_slopeFor_44 ?_
      refine cs_ild h (by decide) rfl hyp.1 (q := x3.toNatClampNeg) rfl dX9_slopeFor_45 ?_
      have hyp := hyp.2
      refine cr_i2l h dX9_slopeFor_46 ?_
      refine cr_aload_n h (j := 0) rfl rfl dX9_slopeFor_47 ?_
      refine cr_getR h (k := 21) cr_clsX9 (by decide) rfl rfl wf_X9_65 (by decide) rfl rfl dX9_slopeFor_48 ?_
      refine cr_iload_n h (j := 3) rfl rfl dX9_slopeFor_51 ?_
      refine cs_ild h (by decide) rfl hyp.1 (q := x3.toNatClampNeg) rfl dX9_slopeFor_52 ?_
      have hyp := hyp.2
      refine cr_i2l h dX9_slopeFor_53 ?_
      refine cr_callS h C_yX9_in cZ_yX9_in wm_X9_154 ws_yX9_in (cr_rmS (by decide) (by decide)) (As := [.long (I 242 x1.toNatClampNeg).toInt64, .long (I 217 x3.toNatClampNeg).toInt64, .long (I 218 x3.toNatClampNeg).toInt64]) rfl (Nat.le_of_ble_eq_true rfl) dX9_slopeFor_54 ⟨τ, (I 242 x1.toNatClampNeg).toInt64, (I 217 x3.toNatClampNeg).toInt64, (I 218 x3.toNatClampNeg).toInt64, rfl, hτ, rfl, ?_⟩
      show cr_V Γ 57 [.ref 200, .int x1, .int x2, .int x3, .null] [.int (f_yX9_in τ ((I 242 x1.toNatClampNeg).toInt64) ((I 217 x3.toNatClampNeg).toInt64) ((I 218 x3.toNatClampNeg).toInt64) I)] I (cr_rf τ) 247
      refine cr_if_eq h (tgt := 64) (by decide) dX9_slopeFor_57 (fun c3 => ?_) (fun c3 => ?_)
      · refine cr_iconst h (v := (0 : Int32)) (by decide) dX9_slopeFor_64 ?_
        exact cr_ite (by rw [if_neg c2, if_pos c3]) J2
      · refine cr_iconst h (v := (1 : Int32)) (by decide) dX9_slopeFor_60 ?_
        refine cr_goto h (tgt := 65) (by decide) dX9_slopeFor_61 ?_
        exact cr_ite (by rw [if_neg c2, if_neg c3]) J2
abbrev T_yX9_slopeFor : cr_T := fun vs I R K => ∃ (τ : Nat → Nat) (x1 : Int32), R = cr_rf τ ∧ cr_tau τ ∧ vs = [.ref 200, .int x1] ∧ p_yX9_slopeFor τ x1 I ∧ K (some (.int (f_yX9_slopeFor τ x1 I))) I (cr_rf τ)
abbrev S_yX9_slopeFor : Prop := cr_C yX9_slopeFor cX9_slopeFor 5 (some .int) (cr_rm0 1 25) 247 247 T_yX9_slopeFor
theorem G_yX9_slopeFor (H : ∀ (Γ : cr_G) (K : cr_K) (τ : Nat → Nat) (x1 : Int32) (I : cr_I), cr_tau τ → cr_Ok yX9_slopeFor cX9_slopeFor 5 (some .int) (cr_rm0 1 25) K 247 247 Γ → p_yX9_slopeFor τ x1 I → K (some (.int (f_yX9_slopeFor τ x1 I))) I (cr_rf τ) → cr_V Γ 0 [.ref 200, .int x1, .null, .null, .null] [] I (cr_rf τ) 247) : cr_C yX9_slopeFor cX9_slopeFor 5 (some .int) (cr_rm0 1 25) 247 247 T_yX9_slopeFor := by
  refine cr_C.of (by decide +kernel) (fun vs I R K hT => ?_) (fun Γ K h vs I R hT => ?_)
  · obtain ⟨τ, x1, rfl, hτ, rfl, hp, hK⟩ := hT
    exact Nat.le_of_ble_eq_true rfl
  · obtain ⟨τ, x1, rfl, hτ, rfl, hp, hK⟩ := hT
    exact H Γ K τ x1 I hτ h hp hK
theorem C_yX9_slopeFor : S_yX9_slopeFor := G_yX9_slopeFor (by
  intro Γ K τ x1 I hτ h hp hK
  obtain ⟨hx1, hm, hh⟩ := hp
  obtain ⟨eN, hN⟩ := cr_ofI (B := 2) hh.1 hh.2
  unfold f_yX9_slopeFor at hK
  generalize (I 200 24).toNatClampNeg = N at *
  refine bk_yX9_slopeFor_0 hτ h ?_
  refine cr_loop (fun k => cr_V Γ 5 [.ref 200, .int x1, .int (cr_slopeS (I 217) (I 218) (I 219) (I 220) (I 201 (I 213 x1.toNatClampNeg).toNatClampNeg) (I 242 x1.toNatClampNeg) k), .int (nI k), .null] [] I (cr_rf τ) 247) N ?_ ?_ 0 (Nat.zero_le _)
  · refine bk_yX9_slopeFor_5 hτ h ⟨fun _ => hK, fun c => absurd ?_ c⟩
    rw [eN]; exact Int32.le_refl _
  · intro k hk ih
    have hx : (0 : Int) ≤ (nI k).toInt ∧ (nI k).toInt < 2 := cr_ix (by omega) (by omega)
    refine bk_yX9_slopeFor_5 hτ h ⟨fun c => absurd c ?_, fun _ => ⟨hx1, hm, hx, fun _ => trivial, fun _ => ⟨hx1, hx, hx, trivial⟩, ?_⟩⟩
    · rw [eN]; exact cr_nle hk (by omega)
    · rw [cr_nc (show k < 100000 by omega)]
      intro v1 ev
      have hv : (v1 = 0) ↔ ¬ ((I 217 k).toInt ≤ (I 242 x1.toNatClampNeg).toInt ∧ (I 242 x1.toNatClampNeg).toInt ≤ (I 218 k).toInt ∧ (I 219 k).toInt < (I 201 (I 213 x1.toNatClampNeg).toNatClampNeg).toInt) := by
        rw [ev]
        by_cases q1 : I 201 (I 213 x1.toNatClampNeg).toNatClampNeg ≤ I 219 k
        · rw [if_pos q1]
          rw [cr_le] at q1
          exact ⟨fun _ z => by omega, fun _ => rfl⟩
        · rw [if_neg q1]
          rw [cr_le] at q1
          rw [cr_in, Int32.toInt_toInt64, Int32.toInt_toInt64, Int32.toInt_toInt64]
          by_cases q2 : (I 217 k).toInt ≤ (I 242 x1.toNatClampNeg).toInt ∧ (I 242 x1.toNatClampNeg).toInt ≤ (I 218 k).toInt
          · rw [if_pos q2, if_neg (by decide)]
            exact ⟨fun z => absurd z (by decide), fun z => absurd ⟨q2.1, q2.2, by omega⟩ z⟩
          · rw [if_neg q2, if_pos rfl]
            exact ⟨fun _ z => q2 ⟨z.1, z.2.1⟩, fun _ => rfl⟩
      refine ⟨fun _ => trivial, fun _ => ⟨hx, trivial⟩, ?_⟩
      rintro v2 rfl v3 rfl
      rw [nI_1]
      have e : (if v1 = 0 then cr_slopeS (I 217) (I 218) (I 219) (I 220) (I 201 (I 213 x1.toNatClampNeg).toNatClampNeg) (I 242 x1.toNatClampNeg) k else f_yX9_lesser τ (cr_slopeS (I 217) (I 218) (I 219) (I 220) (I 201 (I 213 x1.toNatClampNeg).toNatClampNeg) (I 242 x1.toNatClampNeg) k) (I 220 k) I) = cr_slopeS (I 217) (I 218) (I 219) (I 220) (I 201 (I 213 x1.toNatClampNeg).toNatClampNeg) (I 242 x1.toNatClampNeg) (k + 1) := by
        rw [cr_slopeS]
        by_cases q : v1 = 0
        · rw [if_pos q, if_neg (hv.mp q)]
        · rw [if_neg q]
          rw [hv, Classical.not_not] at q
          rw [if_pos q]
          unfold f_yX9_lesser
          generalize cr_slopeS (I 217) (I 218) (I 219) (I 220) (I 201 (I 213 x1.toNatClampNeg).toNatClampNeg) (I 242 x1.toNatClampNeg) k = a
          rw [cr_eq]
          by_cases z : I 220 k < a
          · rw [if_pos z, if_pos (by rw [cr_lt] at z; rw [cr_le]; omega)]
          · rw [if_neg z]
            by_cases y : I 220 k ≤ a
            · rw [if_pos y]; rw [cr_lt] at z; rw [cr_le] at y; omega
            · rw [if_neg y]
      rw [e]
      exact ih)
