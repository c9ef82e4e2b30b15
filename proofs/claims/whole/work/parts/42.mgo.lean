/-! going on: the reference -/
theorem cr_firstS_x {f : Nat → Bool} : ∀ m l, cr_firstS f l (m + 1) = match cr_firstS f l m with | some x => some x | none => if f (l + m) = true then some (l + m) else none
  | 0, l => by
    rw [cr_firstS, cr_firstS]
    rfl
  | m + 1, l => by
    rw [cr_firstS]
    by_cases q : f l = true
    · rw [if_pos q, cr_firstS, if_pos q]
    · rw [if_neg q, cr_firstS_x m (l + 1), cr_firstS, if_neg q, show l + 1 + m = l + (m + 1) by omega]
/-- the first that touches, of those up to m, kept -/
def cr_tcN (g : Nat → Bool) (t m : Nat) (a : Int32 × Int32) : Int32 × Int32 := if a.1 = -1 then (match cr_firstS g 1 m with | some i => (nI t, nI i) | none => a) else a
theorem cr_tcN_s {g : Nat → Bool} {t m : Nat} {a : Int32 × Int32} (ht : t < 100000) : cr_tcN g t (m + 1) a = if (cr_tcN g t m a).1 = -1 ∧ g (m + 1) = true then (nI t, nI (m + 1)) else cr_tcN g t m a := by
  have hne : ¬ nI t = (-1 : Int32) := by
    rw [cr_eq, cr_nt ht]
    intro z
    have : (-1 : Int32).toInt = -1 := rfl
    omega
  unfold cr_tcN
  by_cases q : a.1 = -1
  · rw [if_pos q, if_pos q, cr_firstS_x]
    cases cr_firstS g 1 m with
    | some x => exact (if_neg (fun z => hne z.1)).symm
    | none =>
      show (match (if g (1 + m) = true then some (1 + m) else none) with | some i => (nI t, nI i) | none => a) = if a.1 = -1 ∧ g (m + 1) = true then (nI t, nI (m + 1)) else a
      rw [Nat.add_comm 1 m]
      by_cases y : g (m + 1) = true
      · rw [if_pos y, if_pos ⟨q, y⟩]
      · rw [if_neg y, if_neg (fun z => y z.2)]
  · rw [if_neg q, if_neg q, if_neg (fun z => q z.1)]
theorem cr_mclp {τ : Nat → Nat} {v m : Int32} {I : cr_I} (hm : 0 ≤ m.toInt) : f_yX9_lesser τ (if 0 ≤ v then v else 0) m I = cr_clp m v := by
  unfold f_yX9_lesser cr_clp
  rw [cr_eq]
  have z : (0 : Int32).toInt = 0 := rfl
  by_cases q1 : v < m
  · rw [if_pos q1]
    rw [cr_lt] at q1
    by_cases q2 : 0 < v
    · rw [if_pos q2]
      rw [cr_lt] at q2
      rw [if_pos (show 0 ≤ v by rw [cr_le]; omega), if_neg (by rw [cr_le]; omega)]
    · rw [if_neg q2]
      rw [cr_lt] at q2
      by_cases q3 : 0 ≤ v
      · rw [if_pos q3]
        rw [cr_le] at q3
        rw [if_neg (by rw [cr_le]; omega)]
        omega
      · rw [if_neg q3]
        by_cases q4 : m ≤ 0
        · rw [if_pos q4]
          rw [cr_le] at q4
          omega
        · rw [if_neg q4]
  · rw [if_neg q1]
    rw [cr_lt] at q1
    rw [if_pos (show 0 ≤ v by rw [cr_le]; omega), if_pos (by rw [cr_le]; omega)]
    by_cases q2 : 0 < m
    · rw [if_pos q2]
    · rw [if_neg q2]
      rw [cr_lt] at q2
      omega
def cr_POm (t b k : Nat) : Prop := (b = 200 ∧ (k = 60 ∨ k = 55 ∨ k = 56)) ∨ b = 240 ∨ b = 241 ∨ b = 242 ∨ ((b = 233 ∨ b = 234 ∨ b = 235) ∧ 6 * t ≤ k ∧ k < 6 * t + 6)
theorem cr_POm.w {t : Nat} {I J : cr_I} (h : cr_F (cr_POm t) I J) : cr_F cr_PRm I J := h.wd (fun b k z => by unfold cr_POm at z; unfold cr_PRm; omega)
def cr_mS1 (p : cr_par) (t : Nat) (I : cr_I) (i : Nat) : Int32 := cr_clp (psl p i (I 242 i)) (I 240 i + (if t < pft p i then 0 else I 236 (6 * (t - pft p i) + i)))
def cr_mG1 (p : cr_par) (t : Nat) (I : cr_I) (i : Nat) : Int32 := I 241 i + cr_mS1 p t I (i - 1) - cr_mS1 p t I i
def cr_mX1 (p : cr_par) (t : Nat) (I : cr_I) : Int32 := if cr_strS p (pL p) t ∧ pL p < pn p then I 200 60 + (pss p - cr_mS1 p t I (pL p)) else I 200 60
def cr_mtc (p : cr_par) (t : Nat) (I : cr_I) (i : Nat) : Bool := decide (cr_mG1 p t I i ≤ 0) || (decide (cr_strS p i t) && decide (cr_mX1 p t I ≤ 0))
def p_yX9_goOn (τ : Nat → Nat) (x1 : Int32) (I : cr_I) : Prop := cr_mok I ∧ (0 ≤ x1.toInt ∧ x1.toInt ≤ 31)
def cr_qgo (p : cr_par) (t : Nat) (I J : cr_I) : Prop := cr_F (cr_POm t) I J ∧ (∀ i, i < pn p → J 240 i = cr_mS1 p t I i ∧ (1 ≤ i → J 241 i = cr_mG1 p t I i) ∧ J 242 i = I 242 i + cr_mS1 p t I i ∧ J 233 (6 * t + i) = cr_mS1 p t I i ∧ (1 ≤ i → J 234 (6 * t + i) = cr_mG1 p t I i) ∧ J 235 (6 * t + i) = I 242 i + cr_mS1 p t I i) ∧ J 200 60 = cr_mX1 p t I ∧ (J 200 55, J 200 56) = cr_tcN (cr_mtc p t I) t (pn p - 1) (I 200 55, I 200 56)
def q_yX9_goOn (τ : Nat → Nat) (x1 : Int32) (I J : cr_I) : Prop := cr_qgo (cr_mpar I) x1.toNatClampNeg I J
theorem bk_yX9_goOn_0 {Γ : cr_G} {K : cr_K} {τ : Nat → Nat} {I : cr_I} {x1 : Int32} (hτ : cr_tau τ)  (h : cr_Ok yX9_goOn cX9_goOn 5 none (cr_rm0 2 49) K 247 247 Γ) (hyp : cr_V Γ 2 [.ref 200, .int x1, .int (0 : Int32), .null, .null] [] I (cr_rf τ) 247) : cr_V Γ 0 [.ref 200, .int x1, .null, .null, .null] [] I (cr_rf τ) 247 := by
  refine cr_iconst h (v := (0 : Int32)) (by decide) dX9_goOn_0 ?_
  refine cr_istore_n h (j := 2) rfl (by decide) rfl dX9_goOn_1 ?_
  show cr_V Γ 2 [.ref 200, .int x1, .int (0 : Int32), .null, .null] [] I (cr_rf τ) 247
  exact cr_weak [true, true, true, false, false] hyp
theorem bk_yX9_goOn_2 {Γ : cr_G} {K : cr_K} {τ : Nat → Nat} {I : cr_I} {x1 : Int32} {x2 : Int32} (hτ : cr_tau τ)  (h : cr_Ok yX9_goOn cX9_goOn 5 none (cr_rm0 2 49) K 247 247 Γ) (hyp : ((I 200 13) ≤ x2 → cr_V Γ 90 [.ref 200, .int x1, .int (0 : Int32), .null, .null] [] I (cr_rf τ) 247) ∧ (¬ (I 200 13) ≤ x2 → ((0 ≤ x2.toInt ∧ x2.toInt < 6) ∧ (0 ≤ (I 213 x2.toNatClampNeg).toInt ∧ (I 213 x2.toNatClampNeg).toInt < 4) ∧ (∀ v1 : Int32, v1 = (I 204 (I 213 x2.toNatClampNeg).toNatClampNeg) → ((0 ≤ x2.toInt ∧ x2.toInt < 6) ∧ (v1 ≤ x1 → ((0 ≤ (((6 : Int32) * (x1 - v1)) + x2).toInt ∧ (((6 : Int32) * (x1 - v1)) + x2).toInt < 192) ∧ True)) ∧ (¬ v1 ≤ x1 → True) ∧ (∀ v2 : Int32, v2 = ((I 240 x2.toNatClampNeg) + (if v1 ≤ x1 then (I 236 (((6 : Int32) * (x1 - v1)) + x2).toNatClampNeg) else (0 : Int32))) → (∀ v3 : Int32, v3 = (if 0 ≤ v2 then v2 else (0 : Int32)) → (p_yX9_slopeFor τ x2 I ∧ (0 ≤ x2.toInt ∧ x2.toInt < 6) ∧ (∀ J1 : cr_I, J1 = cr_up I 240 x2.toNatClampNeg (f_yX9_lesser τ v3 (f_yX9_slopeFor τ x2 I) I) → (∀ v4 : Int32, v4 = x2 + (1 : Int32) → cr_V Γ 2 [.ref 200, .int x1, .int v4, .null, .null] [] J1 (cr_rf τ) 247)))))))))) : cr_V Γ 2 [.ref 200, .int x1, .int x2, .null, .null] [] I (cr_rf τ) 247 := by
  refine cr_iload_n h (j := 2) rfl rfl dX9_goOn_2 ?_
  refine cr_aload_n h (j := 0) rfl rfl dX9_goOn_3 ?_
  refine cr_getI h (k := 13) cr_clsX9 (by decide) rfl rfl wf_X9_46 (by decide) rfl dX9_goOn_4 ?_
  refine cr_icmp_ge h (tgt := 88) (by decide) dX9_goOn_7 (fun c1 => ?_) (fun c1 => ?_)
  · have hyp := hyp.1 c1
    refine cr_iconst h (v := (0 : Int32)) (by decide) dX9_goOn_88 ?_
    refine cr_istore_n h (j := 2) rfl (by decide) rfl dX9_goOn_89 ?_
    show cr_V Γ 90 [.ref 200, .int x1, .int (0 : Int32), .null, .null] [] I (cr_rf τ) 247
    exact cr_weak [true, true, true, false, false] hyp
  · have hyp := hyp.2 c1
    refine cr_aload_n h (j := 0) rfl rfl dX9_goOn_10 ?_
    refine cr_getR h (k := 3) cr_clsX9 (by decide) rfl rfl wf_X9_19 (by decide) rfl rfl dX9_goOn_11 ?_
    refine cr_aload_n h (j := 0) rfl rfl dX9_goOn_14 ?_
    refine cr_getR h (k := 14) cr_clsX9 (by decide) rfl rfl wf_X9_50 (by decide) rfl rfl dX9_goOn_15 ?_
    refine cr_iload_n h (j := 2) rfl rfl dX9_goOn_18 ?_
    refine cs_ild h (by decide) rfl hyp.1 (q := x2.toNatClampNeg) rfl dX9_goOn_19 ?_
    have hyp := hyp.2
    refine cs_ild h (by decide) rfl hyp.1 (q := (I 213 x2.toNatClampNeg).toNatClampNeg) rfl dX9_goOn_20 ?_
    have hyp := hyp.2
    refine cs_i_n h 3 rfl (by decide) rfl dX9_goOn_21 (fun v1 ev1 => ?_)
    have hyp := hyp v1 ev1
    show cr_V Γ 22 [.ref 200, .int x1, .int x2, .int v1, .null] [] I (cr_rf τ) 247
    refine cr_aload_n h (j := 0) rfl rfl dX9_goOn_22 ?_
    refine cr_getR h (k := 57) cr_clsX9 (by decide) rfl rfl wf_X9_131 (by decide) rfl rfl dX9_goOn_23 ?_
    refine cr_iload_n h (j := 2) rfl rfl dX9_goOn_26 ?_
    refine cs_ild h (by decide) rfl hyp.1 (q := x2.toNatClampNeg) rfl dX9_goOn_27 ?_
    have hyp := hyp.2
    refine cr_iload_n h (j := 1) rfl rfl dX9_goOn_28 ?_
    refine cr_iload_n h (j := 3) rfl rfl dX9_goOn_29 ?_
    have hsJ3 := hyp.1
    have htJ3 := hyp.2.1
    have hyp := hyp.2.2
    have J3 : cr_V Γ 50 [.ref 200, .int x1, .int x2, .int v1, .null] [.int (if v1 ≤ x1 then (I 236 (((6 : Int32) * (x1 - v1)) + x2).toNatClampNeg) else (0 : Int32)), .int (I 240 x2.toNatClampNeg)] I (cr_rf τ) 247 := by
      refine cr_iadd h dX9_goOn_50 ?_
      refine cs_i h 4 (by decide) rfl dX9_goOn_51 (fun v2 ev2 => ?_)
      have hyp := hyp v2 ev2
      show cr_V Γ 53 [.ref 200, .int x1, .int x2, .int v1, .int v2] [] I (cr_rf τ) 247
      refine cr_iload h rfl dX9_goOn_53 ?_
      have J2 : cr_V Γ 64 [.ref 200, .int x1, .int x2, .int v1, .int v2] [.int (if 0 ≤ v2 then v2 else (0 : Int32))] I (cr_rf τ) 247 := by
        refine cs_i h 4 (by decide) rfl dX9_goOn_64 (fun v3 ev3 => ?_)
        have hyp := hyp v3 ev3
        show cr_V Γ 66 [.ref 200, .int x1, .int x2, .int v1, .int v3] [] I (cr_rf τ) 247
        refine cr_aload_n h (j := 0) rfl rfl dX9_goOn_66 ?_
        refine cr_getR h (k := 57) cr_clsX9 (by decide) rfl rfl wf_X9_131 (by decide) rfl rfl dX9_goOn_67 ?_
        refine cr_iload_n h (j := 2) rfl rfl dX9_goOn_70 ?_
        refine cr_iload h rfl dX9_goOn_71 ?_
        refine cr_aload_n h (j := 0) rfl rfl dX9_goOn_73 ?_
        refine cr_iload_n h (j := 2) rfl rfl dX9_goOn_74 ?_
        refine cr_callV h (c0 := 9) (T0 := TX9) C_yX9_slopeFor cZ_yX9_slopeFor wm_X9_312 wv_yX9_slopeFor we_yX9_slopeFor (by decide) rfl rfl (cr_rmS (by decide) (by decide)) (As := [.int x2]) rfl (Nat.le_of_ble_eq_true rfl) dX9_goOn_75 ⟨τ, x2, rfl, hτ, rfl, hyp.1, ?_⟩
        have hyp := hyp.2
        show cr_V Γ 78 [.ref 200, .int x1, .int x2, .int v1, .int v3] [.int (f_yX9_slopeFor τ x2 I), .int v3, .int x2, .ref 240] I (cr_rf τ) 247
        refine cr_callS h C_yX9_lesser cZ_yX9_lesser wm_X9_280 ws_yX9_lesser (cr_rmS (by decide) (by decide)) (As := [.int v3, .int (f_yX9_slopeFor τ x2 I)]) rfl (Nat.le_of_ble_eq_true rfl) dX9_goOn_78 ⟨τ, v3, (f_yX9_slopeFor τ x2 I), rfl, hτ, rfl, ?_⟩
        show cr_V Γ 81 [.ref 200, .int x1, .int x2, .int v1, .int v3] [.int (f_yX9_lesser τ v3 (f_yX9_slopeFor τ x2 I) I), .int x2, .ref 240] I (cr_rf τ) 247
        refine cs_ist h (by decide) (by decide) rfl hyp.1 (q := x2.toNatClampNeg) rfl dX9_goOn_81 (fun J1 eJ1 => ?_)
        have hyp := hyp.2 J1 eJ1
        refine cs_inc h (v := (1 : Int32)) 2 rfl (by decide) (by decide) rfl dX9_goOn_82 (fun v4 ev4 => ?_)
        have hyp := hyp v4 ev4
        show cr_V Γ 85 [.ref 200, .int x1, .int v4, .int v1, .int v3] [] J1 (cr_rf τ) 247
        refine cr_goto h (tgt := 2) (by decide) dX9_goOn_85 ?_
        exact cr_weak [true, true, true, false, false] hyp
      refine cr_if_ge h (tgt := 62) (by decide) dX9_goOn_55 (fun c3 => ?_) (fun c3 => ?_)
      · refine cr_iload h rfl dX9_goOn_62 ?_
        exact cr_ite (by rw [if_pos c3]) J2
      · refine cr_iconst h (v := (0 : Int32)) (by decide) dX9_goOn_58 ?_
        refine cr_goto h (tgt := 64) (by decide) dX9_goOn_59 ?_
        exact cr_ite (by rw [if_neg c3]) J2
    refine cr_icmp_ge h (tgt := 37) (by decide) dX9_goOn_30 (fun c2 => ?_) (fun c2 => ?_)
    · have hyp := hsJ3 c2
      refine cr_aload_n h (j := 0) rfl rfl dX9_goOn_37 ?_
      refine cr_getR h (k := 51) cr_clsX9 (by decide) rfl rfl wf_X9_119 (by decide) rfl rfl dX9_goOn_38 ?_
      refine cr_bipush h (v := (6 : Int32)) (by decide) dX9_goOn_41 ?_
      refine cr_iload_n h (j := 1) rfl rfl dX9_goOn_43 ?_
      refine cr_iload_n h (j := 3) rfl rfl dX9_goOn_44 ?_
      refine cr_isub h dX9_goOn_45 ?_
      refine cr_imul h dX9_goOn_46 ?_
      refine cr_iload_n h (j := 2) rfl rfl dX9_goOn_47 ?_
      refine cr_iadd h dX9_goOn_48 ?_
      refine cs_ild h (by decide) rfl hyp.1 (q := (((6 : Int32) * (x1 - v1)) + x2).toNatClampNeg) rfl dX9_goOn_49 ?_
      have hyp := hyp.2
      exact cr_ite (by rw [if_pos c2]) J3
    · refine cr_iconst h (v := (0 : Int32)) (by decide) dX9_goOn_33 ?_
      refine cr_goto h (tgt := 50) (by decide) dX9_goOn_34 ?_
      exact cr_ite (by rw [if_neg c2]) J3
theorem bk_yX9_goOn_90 {Γ : cr_G} {K : cr_K} {τ : Nat → Nat} {I : cr_I} {x1 : Int32} {x2 : Int32} (hτ : cr_tau τ)  (h : cr_Ok yX9_goOn cX9_goOn 5 none (cr_rm0 2 49) K 247 247 Γ) (hyp : ((I 200 13) ≤ x2 → K none I (cr_rf τ)) ∧ (¬ (I 200 13) ≤ x2 → (∀ v5 : Int32, v5 = (((6 : Int32) * x1) + x2) → ((0 ≤ x2.toInt ∧ x2.toInt < 6) ∧ (0 ≤ x2.toInt ∧ x2.toInt < 6) ∧ (0 ≤ x2.toInt ∧ x2.toInt < 6) ∧ (∀ J4 : cr_I, J4 = cr_up I 242 x2.toNatClampNeg ((I 242 x2.toNatClampNeg) + (I 240 x2.toNatClampNeg)) → ((0 ≤ x2.toInt ∧ x2.toInt < 6) ∧ (¬ x2 = 0 → ((0 ≤ (x2 - (1 : Int32)).toInt ∧ (x2 - (1 : Int32)).toInt < 6) ∧ ((0 ≤ x2.toInt ∧ x2.toInt < 6) ∧ True))) ∧ (x2 = 0 → True) ∧ ((0 ≤ x2.toInt ∧ x2.toInt < 6) ∧ (∀ J5 : cr_I, J5 = cr_up J4 241 x2.toNatClampNeg ((J4 241 x2.toNatClampNeg) + (if x2 = 0 then (0 : Int32) else ((J4 240 (x2 - (1 : Int32)).toNatClampNeg) - (J4 240 x2.toNatClampNeg)))) → (((f_yX9_isStrange τ x2 x1 J5) = 0 → True) ∧ (¬ (f_yX9_isStrange τ x2 x1 J5) = 0 → ((0 ≤ x2.toInt ∧ x2.toInt < 6) ∧ True)) ∧ (∀ J6 : cr_I, J6 = cr_up J5 200 60 ((J5 200 60) + (if (f_yX9_isStrange τ x2 x1 J5) = 0 then (0 : Int32) else ((J5 200 28) - (J5 240 x2.toNatClampNeg)))) → ((0 ≤ x2.toInt ∧ x2.toInt < 6) ∧ (0 ≤ v5.toInt ∧ v5.toInt < 192) ∧ (∀ J7 : cr_I, J7 = cr_up J6 233 v5.toNatClampNeg (J6 240 x2.toNatClampNeg) → ((0 ≤ x2.toInt ∧ x2.toInt < 6) ∧ (0 ≤ v5.toInt ∧ v5.toInt < 192) ∧ (∀ J8 : cr_I, J8 = cr_up J7 234 v5.toNatClampNeg (J7 241 x2.toNatClampNeg) → ((0 ≤ x2.toInt ∧ x2.toInt < 6) ∧ (0 ≤ v5.toInt ∧ v5.toInt < 192) ∧ (∀ J9 : cr_I, J9 = cr_up J8 235 v5.toNatClampNeg (J8 242 x2.toNatClampNeg) → ((x2 ≤ 0 → True) ∧ (¬ x2 ≤ 0 → ((0 ≤ x2.toInt ∧ x2.toInt < 6) ∧ True)) ∧ (∀ v6 : Int32, v6 = (if x2 ≤ 0 then (if (f_yX9_isStrange τ x2 x1 J9) = 0 then (0 : Int32) else (if 0 < (J9 200 60) then (0 : Int32) else (1 : Int32))) else (if (J9 241 x2.toNatClampNeg) ≤ 0 then (1 : Int32) else (if (f_yX9_isStrange τ x2 x1 J9) = 0 then (0 : Int32) else (if 0 < (J9 200 60) then (0 : Int32) else (1 : Int32))))) → ((v6 = 0 → (∀ v7 : Int32, v7 = x2 + (1 : Int32) → cr_V Γ 90 [.ref 200, .int x1, .int v7, .null, .null] [] J9 (cr_rf τ) 247)) ∧ (¬ v6 = 0 → ((¬ (J9 200 55) = (-1 : Int32) → (∀ v8 : Int32, v8 = x2 + (1 : Int32) → cr_V Γ 90 [.ref 200, .int x1, .int v8, .null, .null] [] J9 (cr_rf τ) 247)) ∧ ((J9 200 55) = (-1 : Int32) → (∀ J10 : cr_I, J10 = cr_up J9 200 55 x1 → (∀ J11 : cr_I, J11 = cr_up J10 200 56 x2 → (∀ v9 : Int32, v9 = x2 + (1 : Int32) → cr_V Γ 90 [.ref 200, .int x1, .int v9, .null, .null] [] J11 (cr_rf τ) 247))))))))))))))))))))))))) : cr_V Γ 90 [.ref 200, .int x1, .int x2, .null, .null] [] I (cr_rf τ) 247 := by
  refine cr_iload_n h (j := 2) rfl rfl dX9_goOn_90 ?_
  refine cr_aload_n h (j := 0) rfl rfl dX9_goOn_91 ?_
  refine cr_getI h (k := 13) cr_clsX9 (by decide) rfl rfl wf_X9_46 (by decide) rfl dX9_goOn_92 ?_
  refine cr_icmp_ge h (tgt := 286) (by decide) dX9_goOn_95 (fun c4 => ?_) (fun c4 => ?_)
  · have hyp := hyp.1 c4
    refine cr_vret h rfl rfl dX9_goOn_286 ?_
    exact hyp
  · have hyp := hyp.2 c4
    refine cr_bipush h (v := (6 : Int32)) (by decide) dX9_goOn_98 ?_
    refine cr_iload_n h (j := 1) rfl rfl dX9_goOn_100 ?_
    refine cr_imul h dX9_goOn_101 ?_
    refine cr_iload_n h (j := 2) rfl rfl dX9_goOn_102 ?_
    refine cr_iadd h dX9_goOn_103 ?_
    refine cs_i_n h 3 rfl (by decide) rfl dX9_goOn_104 (fun v5 ev5 => ?_)
    have hyp := hyp v5 ev5
    show cr_V Γ 105 [.ref 200, .int x1, .int x2, .int v5, .null] [] I (cr_rf τ) 247
    refine cr_aload_n h (j := 0) rfl rfl dX9_goOn_105 ?_
    refine cr_getR h (k := 59) cr_clsX9 (by decide) rfl rfl wf_X9_137 (by decide) rfl rfl dX9_goOn_106 ?_
    refine cr_iload_n h (j := 2) rfl rfl dX9_goOn_109 ?_
    refine cr_dup2 h rfl rfl dX9_goOn_110 ?_
    refine cs_ild h (by decide) rfl hyp.1 (q := x2.toNatClampNeg) rfl dX9_goOn_111 ?_
    have hyp := hyp.2
    refine cr_aload_n h (j := 0) rfl rfl dX9_goOn_112 ?_
    refine cr_getR h (k := 57) cr_clsX9 (by decide) rfl rfl wf_X9_131 (by decide) rfl rfl dX9_goOn_113 ?_
    refine cr_iload_n h (j := 2) rfl rfl dX9_goOn_116 ?_
    refine cs_ild h (by decide) rfl hyp.1 (q := x2.toNatClampNeg) rfl dX9_goOn_117 ?_
    have hyp := hyp.2
    refine cr_iadd h dX9_goOn_118 ?_
    refine cs_ist h (by decide) (by decide) rfl hyp.1 (q := x2.toNatClampNeg) rfl dX9_goOn_119 (fun J4 eJ4 => ?_)
    have hyp := hyp.2 J4 eJ4
    refine cr_aload_n h (j := 0) rfl rfl dX9_goOn_120 ?_
    refine cr_getR h (k := 58) cr_clsX9 (by decide) rfl rfl wf_X9_134 (by decide) rfl rfl dX9_goOn_121 ?_
    refine cr_iload_n h (j := 2) rfl rfl dX9_goOn_124 ?_
    refine cr_dup2 h rfl rfl dX9_goOn_125 ?_
    refine cs_ild h (by decide) rfl hyp.1 (q := x2.toNatClampNeg) rfl dX9_goOn_126 ?_
    have hyp := hyp.2
    refine cr_iload_n h (j := 2) rfl rfl dX9_goOn_127 ?_
    have hsJ14 := hyp.1
    have htJ14 := hyp.2.1
    have hyp := hyp.2.2
    have J14 : cr_V Γ 150 [.ref 200, .int x1, .int x2, .int v5, .null] [.int (if x2 = 0 then (0 : Int32) else ((J4 240 (x2 - (1 : Int32)).toNatClampNeg) - (J4 240 x2.toNatClampNeg))), .int (J4 241 x2.toNatClampNeg), .int x2, .ref 241] J4 (cr_rf τ) 247 := by
      refine cr_iadd h dX9_goOn_150 ?_
      refine cs_ist h (by decide) (by decide) rfl hyp.1 (q := x2.toNatClampNeg) rfl dX9_goOn_151 (fun J5 eJ5 => ?_)
      have hyp := hyp.2 J5 eJ5
      refine cr_aload_n h (j := 0) rfl rfl dX9_goOn_152 ?_
      refine cr_dup h rfl dX9_goOn_153 ?_
      refine cr_getI h (k := 60) cr_clsX9 (by decide) rfl rfl wf_X9_302 (by decide) rfl dX9_goOn_154 ?_
      refine cr_aload_n h (j := 0) rfl rfl dX9_goOn_157 ?_
      refine cr_iload_n h (j := 2) rfl rfl dX9_goOn_158 ?_
      refine cr_iload_n h (j := 1) rfl rfl dX9_goOn_159 ?_
      refine cr_callV h (c0 := 9) (T0 := TX9) C_yX9_isStrange cZ_yX9_isStrange wm_X9_298 wv_yX9_isStrange we_yX9_isStrange (by decide) rfl rfl (cr_rmS (by decide) (by decide)) (As := [.int x2, .int x1]) rfl (Nat.le_of_ble_eq_true rfl) dX9_goOn_160 ⟨τ, x2, x1, rfl, hτ, rfl, ?_⟩
      show cr_V Γ 163 [.ref 200, .int x1, .int x2, .int v5, .null] [.int (f_yX9_isStrange τ x2 x1 J5), .int (J5 200 60), .ref 200] J5 (cr_rf τ) 247
      have hsJ13 := hyp.1
      have htJ13 := hyp.2.1
      have hyp := hyp.2.2
      have J13 : cr_V Γ 181 [.ref 200, .int x1, .int x2, .int v5, .null] [.int (if (f_yX9_isStrange τ x2 x1 J5) = 0 then (0 : Int32) else ((J5 200 28) - (J5 240 x2.toNatClampNeg))), .int (J5 200 60), .ref 200] J5 (cr_rf τ) 247 := by
        refine cr_iadd h dX9_goOn_181 ?_
        refine cs_put h (k := 60) cr_clsX9 (by decide) rfl rfl rfl rfl wf_X9_302 (by decide) (by decide) rfl dX9_goOn_182 (fun J6 eJ6 => ?_)
        have hyp := hyp J6 eJ6
        refine cr_aload_n h (j := 0) rfl rfl dX9_goOn_185 ?_
        refine cr_getR h (k := 48) cr_clsX9 (by decide) rfl rfl wf_X9_110 (by decide) rfl rfl dX9_goOn_186 ?_
        refine cr_iload_n h (j := 3) rfl rfl dX9_goOn_189 ?_
        refine cr_aload_n h (j := 0) rfl rfl dX9_goOn_190 ?_
        refine cr_getR h (k := 57) cr_clsX9 (by decide) rfl rfl wf_X9_131 (by decide) rfl rfl dX9_goOn_191 ?_
        refine cr_iload_n h (j := 2) rfl rfl dX9_goOn_194 ?_
        refine cs_ild h (by decide) rfl hyp.1 (q := x2.toNatClampNeg) rfl dX9_goOn_195 ?_
        have hyp := hyp.2
        refine cs_ist h (by decide) (by decide) rfl hyp.1 (q := v5.toNatClampNeg) rfl dX9_goOn_196 (fun J7 eJ7 => ?_)
        have hyp := hyp.2 J7 eJ7
        refine cr_aload_n h (j := 0) rfl rfl dX9_goOn_197 ?_
        refine cr_getR h (k := 49) cr_clsX9 (by decide) rfl rfl wf_X9_113 (by decide) rfl rfl dX9_goOn_198 ?_
        refine cr_iload_n h (j := 3) rfl rfl dX9_goOn_201 ?_
        refine cr_aload_n h (j := 0) rfl rfl dX9_goOn_202 ?_
        refine cr_getR h (k := 58) cr_clsX9 (by decide) rfl rfl wf_X9_134 (by decide) rfl rfl dX9_goOn_203 ?_
        refine cr_iload_n h (j := 2) rfl rfl dX9_goOn_206 ?_
        refine cs_ild h (by decide) rfl hyp.1 (q := x2.toNatClampNeg) rfl dX9_goOn_207 ?_
        have hyp := hyp.2
        refine cs_ist h (by decide) (by decide) rfl hyp.1 (q := v5.toNatClampNeg) rfl dX9_goOn_208 (fun J8 eJ8 => ?_)
        have hyp := hyp.2 J8 eJ8
        refine cr_aload_n h (j := 0) rfl rfl dX9_goOn_209 ?_
        refine cr_getR h (k := 50) cr_clsX9 (by decide) rfl rfl wf_X9_116 (by decide) rfl rfl dX9_goOn_210 ?_
        refine cr_iload_n h (j := 3) rfl rfl dX9_goOn_213 ?_
        refine cr_aload_n h (j := 0) rfl rfl dX9_goOn_214 ?_
        refine cr_getR h (k := 59) cr_clsX9 (by decide) rfl rfl wf_X9_137 (by decide) rfl rfl dX9_goOn_215 ?_
        refine cr_iload_n h (j := 2) rfl rfl dX9_goOn_218 ?_
        refine cs_ild h (by decide) rfl hyp.1 (q := x2.toNatClampNeg) rfl dX9_goOn_219 ?_
        have hyp := hyp.2
        refine cs_ist h (by decide) (by decide) rfl hyp.1 (q := v5.toNatClampNeg) rfl dX9_goOn_220 (fun J9 eJ9 => ?_)
        have hyp := hyp.2 J9 eJ9
        refine cr_iload_n h (j := 2) rfl rfl dX9_goOn_221 ?_
        have hsJ12 := hyp.1
        have htJ12 := hyp.2.1
        have hyp := hyp.2.2
        have J12 : cr_V Γ 255 [.ref 200, .int x1, .int x2, .int v5, .null] [.int (if x2 ≤ 0 then (if (f_yX9_isStrange τ x2 x1 J9) = 0 then (0 : Int32) else (if 0 < (J9 200 60) then (0 : Int32) else (1 : Int32))) else (if (J9 241 x2.toNatClampNeg) ≤ 0 then (1 : Int32) else (if (f_yX9_isStrange τ x2 x1 J9) = 0 then (0 : Int32) else (if 0 < (J9 200 60) then (0 : Int32) else (1 : Int32)))))] J9 (cr_rf τ) 247 := by
          refine cs_i h 4 (by decide) rfl dX9_goOn_255 (fun v6 ev6 => ?_)
          have hyp := hyp v6 ev6
          show cr_V Γ 257 [.ref 200, .int x1, .int x2, .int v5, .int v6] [] J9 (cr_rf τ) 247
          refine cr_iload h rfl dX9_goOn_257 ?_
          refine cr_if_eq h (tgt := 280) (by decide) dX9_goOn_259 (fun c13 => ?_) (fun c13 => ?_)
          · have hyp := hyp.1 c13
            refine cs_inc h (v := (1 : Int32)) 2 rfl (by decide) (by decide) rfl dX9_goOn_280 (fun v7 ev7 => ?_)
            have hyp := hyp v7 ev7
            show cr_V Γ 283 [.ref 200, .int x1, .int v7, .int v5, .int v6] [] J9 (cr_rf τ) 247
            refine cr_goto h (tgt := 90) (by decide) dX9_goOn_283 ?_
            exact cr_weak [true, true, true, false, false] hyp
          · have hyp := hyp.2 c13
            refine cr_aload_n h (j := 0) rfl rfl dX9_goOn_262 ?_
            refine cr_getI h (k := 55) cr_clsX9 (by decide) rfl rfl wf_X9_284 (by decide) rfl dX9_goOn_263 ?_
            refine cr_iconst h (v := (-1 : Int32)) (by decide) dX9_goOn_266 ?_
            refine cr_icmp_ne h (tgt := 280) (by decide) dX9_goOn_267 (fun c14 => ?_) (fun c14 => ?_)
            · have hyp := hyp.1 c14
              refine cs_inc h (v := (1 : Int32)) 2 rfl (by decide) (by decide) rfl dX9_goOn_280 (fun v8 ev8 => ?_)
              have hyp := hyp v8 ev8
              show cr_V Γ 283 [.ref 200, .int x1, .int v8, .int v5, .int v6] [] J9 (cr_rf τ) 247
              refine cr_goto h (tgt := 90) (by decide) dX9_goOn_283 ?_
              exact cr_weak [true, true, true, false, false] hyp
            · have hyp := hyp.2 c14
              refine cr_aload_n h (j := 0) rfl rfl dX9_goOn_270 ?_
              refine cr_iload_n h (j := 1) rfl rfl dX9_goOn_271 ?_
              refine cs_put h (k := 55) cr_clsX9 (by decide) rfl rfl rfl rfl wf_X9_284 (by decide) (by decide) rfl dX9_goOn_272 (fun J10 eJ10 => ?_)
              have hyp := hyp J10 eJ10
              refine cr_aload_n h (j := 0) rfl rfl dX9_goOn_275 ?_
              refine cr_iload_n h (j := 2) rfl rfl dX9_goOn_276 ?_
              refine cs_put h (k := 56) cr_clsX9 (by decide) rfl rfl rfl rfl wf_X9_287 (by decide) (by decide) rfl dX9_goOn_277 (fun J11 eJ11 => ?_)
              have hyp := hyp J11 eJ11
              refine cs_inc h (v := (1 : Int32)) 2 rfl (by decide) (by decide) rfl dX9_goOn_280 (fun v9 ev9 => ?_)
              have hyp := hyp v9 ev9
              show cr_V Γ 283 [.ref 200, .int x1, .int v9, .int v5, .int v6] [] J11 (cr_rf τ) 247
              refine cr_goto h (tgt := 90) (by decide) dX9_goOn_283 ?_
              exact cr_weak [true, true, true, false, false] hyp
        refine cr_if_le h (tgt := 234) (by decide) dX9_goOn_222 (fun c7 => ?_) (fun c7 => ?_)
        · refine cr_aload_n h (j := 0) rfl rfl dX9_goOn_234 ?_
          refine cr_iload_n h (j := 2) rfl rfl dX9_goOn_235 ?_
          refine cr_iload_n h (j := 1) rfl rfl dX9_goOn_236 ?_
          refine cr_callV h (c0 := 9) (T0 := TX9) C_yX9_isStrange cZ_yX9_isStrange wm_X9_298 wv_yX9_isStrange we_yX9_isStrange (by decide) rfl rfl (cr_rmS (by decide) (by decide)) (As := [.int x2, .int x1]) rfl (Nat.le_of_ble_eq_true rfl) dX9_goOn_237 ⟨τ, x2, x1, rfl, hτ, rfl, ?_⟩
          show cr_V Γ 240 [.ref 200, .int x1, .int x2, .int v5, .null] [.int (f_yX9_isStrange τ x2 x1 J9)] J9 (cr_rf τ) 247
          refine cr_if_eq h (tgt := 254) (by decide) dX9_goOn_240 (fun c8 => ?_) (fun c8 => ?_)
          · refine cr_iconst h (v := (0 : Int32)) (by decide) dX9_goOn_254 ?_
            exact cr_ite (by rw [if_pos c7, if_pos c8]) J12
          · refine cr_aload_n h (j := 0) rfl rfl dX9_goOn_243 ?_
            refine cr_getI h (k := 60) cr_clsX9 (by decide) rfl rfl wf_X9_302 (by decide) rfl dX9_goOn_244 ?_
            refine cr_if_gt h (tgt := 254) (by decide) dX9_goOn_247 (fun c9 => ?_) (fun c9 => ?_)
            · refine cr_iconst h (v := (0 : Int32)) (by decide) dX9_goOn_254 ?_
              exact cr_ite (by rw [if_pos c7, if_neg c8, if_pos c9]) J12
            · refine cr_iconst h (v := (1 : Int32)) (by decide) dX9_goOn_250 ?_
              refine cr_goto h (tgt := 255) (by decide) dX9_goOn_251 ?_
              exact cr_ite (by rw [if_pos c7, if_neg c8, if_neg c9]) J12
        · have hyp := htJ12 c7
          refine cr_aload_n h (j := 0) rfl rfl dX9_goOn_225 ?_
          refine cr_getR h (k := 58) cr_clsX9 (by decide) rfl rfl wf_X9_134 (by decide) rfl rfl dX9_goOn_226 ?_
          refine cr_iload_n h (j := 2) rfl rfl dX9_goOn_229 ?_
          refine cs_ild h (by decide) rfl hyp.1 (q := x2.toNatClampNeg) rfl dX9_goOn_230 ?_
          have hyp := hyp.2
          refine cr_if_le h (tgt := 250) (by decide) dX9_goOn_231 (fun c10 => ?_) (fun c10 => ?_)
          · refine cr_iconst h (v := (1 : Int32)) (by decide) dX9_goOn_250 ?_
            refine cr_goto h (tgt := 255) (by decide) dX9_goOn_251 ?_
            exact cr_ite (by rw [if_neg c7, if_pos c10]) J12
          · refine cr_aload_n h (j := 0) rfl rfl dX9_goOn_234 ?_
            refine cr_iload_n h (j := 2) rfl rfl dX9_goOn_235 ?_
            refine cr_iload_n h (j := 1) rfl rfl dX9_goOn_236 ?_
            refine cr_callV h (c0 := 9) (T0 := TX9) C_yX9_isStrange cZ_yX9_isStrange wm_X9_298 wv_yX9_isStrange we_yX9_isStrange (by decide) rfl rfl (cr_rmS (by decide) (by decide)) (As := [.int x2, .int x1]) rfl (Nat.le_of_ble_eq_true rfl) dX9_goOn_237 ⟨τ, x2, x1, rfl, hτ, rfl, ?_⟩
            show cr_V Γ 240 [.ref 200, .int x1, .int x2, .int v5, .null] [.int (f_yX9_isStrange τ x2 x1 J9)] J9 (cr_rf τ) 247
            refine cr_if_eq h (tgt := 254) (by decide) dX9_goOn_240 (fun c11 => ?_) (fun c11 => ?_)
            · refine cr_iconst h (v := (0 : Int32)) (by decide) dX9_goOn_254 ?_
              exact cr_ite (by rw [if_neg c7, if_neg c10, if_pos c11]) J12
            · refine cr_aload_n h (j := 0) rfl rfl dX9_goOn_243 ?_
              refine cr_getI h (k := 60) cr_clsX9 (by decide) rfl rfl wf_X9_302 (by decide) rfl dX9_goOn_244 ?_
              refine cr_if_gt h (tgt := 254) (by decide) dX9_goOn_247 (fun c12 => ?_) (fun c12 => ?_)
              · refine cr_iconst h (v := (0 : Int32)) (by decide) dX9_goOn_254 ?_
                exact cr_ite (by rw [if_neg c7, if_neg c10, if_neg c11, if_pos c12]) J12
              · refine cr_iconst h (v := (1 : Int32)) (by decide) dX9_goOn_250 ?_
                refine cr_goto h (tgt := 255) (by decide) dX9_goOn_251 ?_
                exact cr_ite (by rw [if_neg c7, if_neg c10, if_neg c11, if_neg c12]) J12
      refine cr_if_eq h (tgt := 180) (by decide) dX9_goOn_163 (fun c6 => ?_) (fun c6 => ?_)
      · refine cr_iconst h (v := (0 : Int32)) (by decide) dX9_goOn_180 ?_
        exact cr_ite (by rw [if_pos c6]) J13
      · have hyp := htJ13 c6
        refine cr_aload_n h (j := 0) rfl rfl dX9_goOn_166 ?_
        refine cr_getI h (k := 28) cr_clsX9 (by decide) rfl rfl wf_X9_277 (by decide) rfl dX9_goOn_167 ?_
        refine cr_aload_n h (j := 0) rfl rfl dX9_goOn_170 ?_
        refine cr_getR h (k := 57) cr_clsX9 (by decide) rfl rfl wf_X9_131 (by decide) rfl rfl dX9_goOn_171 ?_
        refine cr_iload_n h (j := 2) rfl rfl dX9_goOn_174 ?_
        refine cs_ild h (by decide) rfl hyp.1 (q := x2.toNatClampNeg) rfl dX9_goOn_175 ?_
        have hyp := hyp.2
        refine cr_isub h dX9_goOn_176 ?_
        refine cr_goto h (tgt := 181) (by decide) dX9_goOn_177 ?_
        exact cr_ite (by rw [if_neg c6]) J13
    refine cr_if_ne h (tgt := 135) (by decide) dX9_goOn_128 (fun c5 => ?_) (fun c5 => ?_)
    · have hyp := hsJ14 c5
      refine cr_aload_n h (j := 0) rfl rfl dX9_goOn_135 ?_
      refine cr_getR h (k := 57) cr_clsX9 (by decide) rfl rfl wf_X9_131 (by decide) rfl rfl dX9_goOn_136 ?_
      refine cr_iload_n h (j := 2) rfl rfl dX9_goOn_139 ?_
      refine cr_iconst h (v := (1 : Int32)) (by decide) dX9_goOn_140 ?_
      refine cr_isub h dX9_goOn_141 ?_
      refine cs_ild h (by decide) rfl hyp.1 (q := (x2 - (1 : Int32)).toNatClampNeg) rfl dX9_goOn_142 ?_
      have hyp := hyp.2
      refine cr_aload_n h (j := 0) rfl rfl dX9_goOn_143 ?_
      refine cr_getR h (k := 57) cr_clsX9 (by decide) rfl rfl wf_X9_131 (by decide) rfl rfl dX9_goOn_144 ?_
      refine cr_iload_n h (j := 2) rfl rfl dX9_goOn_147 ?_
      refine cs_ild h (by decide) rfl hyp.1 (q := x2.toNatClampNeg) rfl dX9_goOn_148 ?_
      have hyp := hyp.2
      refine cr_isub h dX9_goOn_149 ?_
      exact cr_ite (by rw [if_neg c5]) J14
    · refine cr_iconst h (v := (0 : Int32)) (by decide) dX9_goOn_131 ?_
      refine cr_goto h (tgt := 150) (by decide) dX9_goOn_132 ?_
      exact cr_ite (by rw [if_pos c5]) J14
abbrev T_yX9_goOn : cr_T := fun vs I R K => ∃ (τ : Nat → Nat) (x1 : Int32), R = cr_rf τ ∧ cr_tau τ ∧ vs = [.ref 200, .int x1] ∧ p_yX9_goOn τ x1 I ∧ ∀ J, q_yX9_goOn τ x1 I J → K none J (cr_rf τ)
abbrev S_yX9_goOn : Prop := cr_C yX9_goOn cX9_goOn 5 none (cr_rm0 2 49) 247 247 T_yX9_goOn
theorem G_yX9_goOn (H : ∀ (Γ : cr_G) (K : cr_K) (τ : Nat → Nat) (x1 : Int32) (I : cr_I), cr_tau τ → cr_Ok yX9_goOn cX9_goOn 5 none (cr_rm0 2 49) K 247 247 Γ → p_yX9_goOn τ x1 I → (∀ J, q_yX9_goOn τ x1 I J → K none J (cr_rf τ)) → cr_V Γ 0 [.ref 200, .int x1, .null, .null, .null] [] I (cr_rf τ) 247) : cr_C yX9_goOn cX9_goOn 5 none (cr_rm0 2 49) 247 247 T_yX9_goOn := by
  refine cr_C.of (by decide +kernel) (fun vs I R K hT => ?_) (fun Γ K h vs I R hT => ?_)
  · obtain ⟨τ, x1, rfl, hτ, rfl, hp, hK⟩ := hT
    exact Nat.le_of_ble_eq_true rfl
  · obtain ⟨τ, x1, rfl, hτ, rfl, hp, hK⟩ := hT
    exact H Γ K τ x1 I hτ h hp hK
theorem C_yX9_goOn : S_yX9_goOn := G_yX9_goOn (by
  intro Γ K τ x1 I hτ h hp hK
  obtain ⟨hok, h10, h11⟩ := hp
  obtain ⟨eN, h1, h6⟩ := hok.1.un
  obtain ⟨e1, ht⟩ := cr_ofI (B := 31) h10 h11
  have hs := hok.2.1
  unfold q_yX9_goOn at hK
  generalize hpe : cr_mpar I = pp at *
  have hpn : pn pp = cr_mn0 I := by rw [← hpe]; rfl
  have hpL : pL pp = (I 200 25).toNatClampNeg := by rw [← hpe]; rfl
  have hpfr : pfr pp = (I 200 26).toNatClampNeg := by rw [← hpe]; rfl
  have hpto : pto pp = (I 200 27).toNatClampNeg := by rw [← hpe]; rfl
  have hpss : pss pp = I 200 28 := by rw [← hpe]; rfl
  have hpft : ∀ i, i < cr_mn0 I → pft pp i = (I 204 (cr_mmk I i)).toNatClampNeg := fun i hi => by rw [← hpe]; exact if_pos hi
  have hpsl : ∀ i q, i < cr_mn0 I → psl pp i q = cr_slopeS (I 217) (I 218) (I 219) (I 220) (I 201 (cr_mmk I i)) q (I 200 24).toNatClampNeg := fun i q hi => by rw [← hpe]; exact if_pos hi
  have hL5 : pL pp ≤ 5 := by have := hs.1; rw [hpL]; show (I 200 25).toInt.toNat ≤ 5; omega
  generalize cr_mn0 I = n at *
  generalize x1.toNatClampNeg = t at *
  unfold cr_qgo at hK
  rw [hpn] at hK
  have hxt : (0 : Int) ≤ (nI t).toInt ∧ (nI t).toInt < 32 := cr_ix (by omega) (by omega)
  -- speeds, then the rest
  have rest : ∀ M0 : cr_I, cr_F (cr_POm t) I M0 → (∀ b k, b ≠ 240 → M0 b k = I b k) → (∀ j, j < n → M0 240 j = cr_mS1 pp t I j) → cr_V Γ 90 [.ref 200, .int (nI t), .int (0 : Int32), .null, .null] [] M0 (cr_rf τ) 247 := by
    intro M0 hf0 hM0 hS0
    refine cr_loop (fun i => ∀ M : cr_I, cr_F (cr_POm t) I M → (∀ j, j < n → M 240 j = cr_mS1 pp t I j) → (∀ j, j < i → (1 ≤ j → M 241 j = cr_mG1 pp t I j) ∧ M 242 j = I 242 j + cr_mS1 pp t I j ∧ M 233 (6 * t + j) = cr_mS1 pp t I j ∧ (1 ≤ j → M 234 (6 * t + j) = cr_mG1 pp t I j) ∧ M 235 (6 * t + j) = I 242 j + cr_mS1 pp t I j) → (∀ j, i ≤ j → M 241 j = I 241 j ∧ M 242 j = I 242 j) → M 200 60 = (if cr_strS pp (pL pp) t ∧ pL pp < i then I 200 60 + (pss pp - cr_mS1 pp t I (pL pp)) else I 200 60) → (M 200 55, M 200 56) = cr_tcN (cr_mtc pp t I) t (i - 1) (I 200 55, I 200 56) → cr_V Γ 90 [.ref 200, .int (nI t), .int (nI i), .null, .null] [] M (cr_rf τ) 247) n ?_ ?_ 0 (Nat.zero_le _) M0 hf0 hS0 (fun j hj => absurd hj (Nat.not_lt_zero _)) (fun j _ => ⟨hM0 _ _ (by decide), hM0 _ _ (by decide)⟩) (by rw [if_neg (fun z => by omega)]; exact hM0 _ _ (by decide)) (by rw [hM0 200 55 (by decide), hM0 200 56 (by decide)]; unfold cr_tcN; split <;> rfl)
    · intro M hf hS hj hr hX hT
      refine bk_yX9_goOn_90 hτ h ⟨fun _ => hK _ ⟨hf, fun i hi => ?_, ?_, hT⟩, fun c => absurd ?_ c⟩
      · obtain ⟨a, b, c, d, e⟩ := hj i hi
        exact ⟨hS i hi, a, b, c, d, e⟩
      · rw [hX]
        unfold cr_mX1
        rw [hpn]
      · rw [hf 200 13 (by unfold cr_POm; omega), eN]; exact Int32.le_refl _
    · intro i hi ih M hf hS hj hr hX hT
      have hxi : (0 : Int) ≤ (nI i).toInt ∧ (nI i).toInt < 6 := cr_ix (by omega) (by omega)
      have hxk : (0 : Int) ≤ (nI (6 * t + i)).toInt ∧ (nI (6 * t + i)).toInt < 192 := cr_ix (by omega) (by omega)
      have hi0 : (nI i = 0) ↔ i = 0 := cr_neq (b := 0) (by omega) (by omega)
      have hil : (nI i ≤ 0) ↔ i = 0 := by rw [← nI_0, cr_nlq (by omega) (by omega)]; omega
      refine bk_yX9_goOn_90 hτ h ⟨fun c => absurd c ?_, fun _ => ?_⟩
      · rw [hf 200 13 (by unfold cr_POm; omega), eN]; exact cr_nle hi (by omega)
      · rw [cr_6k (by omega) (by omega)]
        rintro v5 rfl
        rw [cr_nc (show 6 * t + i < 100000 by omega), cr_nc (show i < 100000 by omega)]
        refine ⟨hxi, hxi, hxi, ?_⟩
        rw [(hr i (Nat.le_refl _)).2, hS i hi]
        rintro J4 e4
        have hf4 : cr_F (cr_POm t) I J4 := by rw [e4]; exact hf.up (by unfold cr_POm; omega)
        have k4 : ∀ b k, b ≠ 242 → J4 b k = M b k := fun b k hb => by rw [e4, cr_up_b hb]
        have p4 : J4 242 i = I 242 i + cr_mS1 pp t I i := by rw [e4, cr_up_s]
        have p4' : ∀ j, j ≠ i → J4 242 j = M 242 j := fun j hji => by rw [e4, cr_up_k hji]
        clear e4
        refine ⟨hxi, fun c => ⟨?_, hxi, trivial⟩, fun _ => trivial, hxi, ?_⟩
        · rw [hi0] at c
          rw [show i = (i - 1) + 1 by omega, nI_pred]
          exact cr_ix (by omega) (by omega)
        · simp only [hi0, k4 240 _ (by decide), k4 241 _ (by decide), (hr i (Nat.le_refl _)).1]
          rintro J5 e5
          have hf5 : cr_F (cr_POm t) I J5 := by rw [e5]; exact hf4.up (by unfold cr_POm; omega)
          have k5 : ∀ b k, b ≠ 242 → b ≠ 241 → J5 b k = M b k := fun b k hb hb' => by rw [e5, cr_up_b hb', k4 b k hb]
          have p5 : J5 242 i = I 242 i + cr_mS1 pp t I i := by rw [e5, cr_up_b (by decide)]; exact p4
          have p5' : ∀ j, j ≠ i → J5 242 j = M 242 j := fun j hji => by rw [e5, cr_up_b (by decide)]; exact p4' j hji
          have g5 : 1 ≤ i → J5 241 i = cr_mG1 pp t I i := fun h1i => by
            rw [e5, cr_up_s, if_neg (show ¬ i = 0 by omega)]
            unfold cr_mG1
            rw [show (nI i - (1 : Int32)).toNatClampNeg = i - 1 by rw [show i = (i - 1) + 1 by omega, nI_pred]; exact cr_nc (by omega), hS i hi, hS (i - 1) (by omega), Int32.sub_eq_add_neg, Int32.sub_eq_add_neg, Int32.add_assoc]
          have g5' : ∀ j, j ≠ i → J5 241 j = M 241 j := fun j hji => by rw [e5, cr_up_k hji]; exact k4 _ _ (by decide)
          clear e5 k4 p4 p4' hf4
          have hR5 := cr_POm.w hf5
          have his : ∀ {L : cr_I}, cr_F (cr_POm t) I L → ((f_yX9_isStrange τ (nI i) (nI t) L = 0) ↔ ¬ cr_strS pp i t) := fun {L} hL => by
            have hRL := cr_POm.w hL
            rw [cr_mis (hok.fr hRL).2.1 (by omega) (by omega)]
            unfold cr_misP cr_strS
            rw [cr_PRm_f hRL (k := 25) (by decide), cr_PRm_f hRL (k := 26) (by decide), cr_PRm_f hRL (k := 27) (by decide), hpL, hpfr, hpto]
          refine ⟨fun _ => trivial, fun _ => ⟨hxi, trivial⟩, ?_⟩
          have eX : J5 200 60 + (if f_yX9_isStrange τ (nI i) (nI t) J5 = 0 then (0 : Int32) else J5 200 28 - J5 240 i) = (if cr_strS pp (pL pp) t ∧ pL pp < i + 1 then I 200 60 + (pss pp - cr_mS1 pp t I (pL pp)) else I 200 60) := by
            rw [k5 200 60 (by decide) (by decide), hX, k5 240 i (by decide) (by decide), hS i hi, hR5 200 28 (by unfold cr_PRm; omega), ← hpss]
            by_cases q : cr_strS pp i t
            · have qL := q.2.1
              have q0 : 0 < pL pp := q.1
              rw [if_neg (show ¬ f_yX9_isStrange τ (nI i) (nI t) J5 = 0 from fun z => (his hf5).mp z q), if_neg (fun z => by omega), if_pos ⟨⟨q0, rfl, q.2.2.1, q.2.2.2⟩, by omega⟩, qL]
            · rw [if_pos ((his hf5).mpr q), Int32.add_zero]
              by_cases z : cr_strS pp (pL pp) t ∧ pL pp < i
              · rw [if_pos z, if_pos ⟨z.1, by omega⟩]
              · rw [if_neg z, if_neg (fun y => ?_)]
                by_cases w : pL pp = i
                · exact q ⟨y.1.1, w, y.1.2.2.1, y.1.2.2.2⟩
                · exact z ⟨y.1, by omega⟩
          rw [eX]
          rintro J6 rfl
          refine ⟨hxi, hxk, ?_⟩
          rintro J7 rfl
          refine ⟨hxi, hxk, ?_⟩
          rintro J8 rfl
          refine ⟨hxi, hxk, ?_⟩
          rw [cr_up_b (show (240 : Nat) ≠ 200 by decide), cr_up_b (show (241 : Nat) ≠ 233 by decide), cr_up_b (show (241 : Nat) ≠ 200 by decide), cr_up_b (show (242 : Nat) ≠ 234 by decide), cr_up_b (show (242 : Nat) ≠ 233 by decide), cr_up_b (show (242 : Nat) ≠ 200 by decide), p5, k5 240 i (by decide) (by decide), hS i hi]
          rintro J9 e9
          have hf9 : cr_F (cr_POm t) I J9 := by
            rw [e9]
            exact (((hf5.up (by unfold cr_POm; omega)).up (by unfold cr_POm; omega)).up (by unfold cr_POm; omega)).up (by unfold cr_POm; omega)
          have a0 : J9 200 60 = (if cr_strS pp (pL pp) t ∧ pL pp < i + 1 then I 200 60 + (pss pp - cr_mS1 pp t I (pL pp)) else I 200 60) := by
            rw [e9, cr_up_b (by decide), cr_up_b (by decide), cr_up_b (by decide), cr_up_s]
          have a1 : ∀ j, J9 240 j = M 240 j := fun j => by
            rw [e9, cr_up_b (by decide), cr_up_b (by decide), cr_up_b (by decide), cr_up_b (by decide)]; exact k5 _ _ (by decide) (by decide)
          have a2 : ∀ j, J9 241 j = J5 241 j := fun j => by
            rw [e9, cr_up_b (by decide), cr_up_b (by decide), cr_up_b (by decide), cr_up_b (by decide)]
          have a3 : ∀ j, J9 242 j = J5 242 j := fun j => by
            rw [e9, cr_up_b (by decide), cr_up_b (by decide), cr_up_b (by decide), cr_up_b (by decide)]
          have a4 : J9 233 (6 * t + i) = cr_mS1 pp t I i := by rw [e9, cr_up_b (by decide), cr_up_b (by decide), cr_up_s]
          have a5 : J9 234 (6 * t + i) = J5 241 i := by rw [e9, cr_up_b (by decide), cr_up_s]
          have a6 : J9 235 (6 * t + i) = I 242 i + cr_mS1 pp t I i := by rw [e9, cr_up_s]
          have a7 : ∀ j, j ≠ i → J9 233 (6 * t + j) = M 233 (6 * t + j) ∧ J9 234 (6 * t + j) = M 234 (6 * t + j) ∧ J9 235 (6 * t + j) = M 235 (6 * t + j) := fun j hji => by
            refine ⟨?_, ?_, ?_⟩
            · rw [e9, cr_up_b (by decide), cr_up_b (by decide), cr_up_k (by omega), cr_up_b (by decide)]; exact k5 _ _ (by decide) (by decide)
            · rw [e9, cr_up_b (by decide), cr_up_k (by omega), cr_up_b (by decide), cr_up_b (by decide)]; exact k5 _ _ (by decide) (by decide)
            · rw [e9, cr_up_k (by omega), cr_up_b (by decide), cr_up_b (by decide), cr_up_b (by decide)]; exact k5 _ _ (by decide) (by decide)
          have a8 : (J9 200 55, J9 200 56) = cr_tcN (cr_mtc pp t I) t (i - 1) (I 200 55, I 200 56) := by
            rw [e9, cr_up_b (by decide), cr_up_b (by decide), cr_up_b (by decide), cr_up_k (by decide), cr_up_b (by decide), cr_up_b (by decide), cr_up_b (by decide), cr_up_k (by decide), k5 200 55 (by decide) (by decide), k5 200 56 (by decide) (by decide)]
            exact hT
          clear e9
          -- whatever becomes of the touch
          have go : ∀ L : cr_I, (∀ b k, ¬ (b = 200 ∧ (k = 55 ∨ k = 56)) → L b k = J9 b k) → (L 200 55, L 200 56) = cr_tcN (cr_mtc pp t I) t i (I 200 55, I 200 56) → cr_V Γ 90 [.ref 200, .int (nI t), .int (nI (i + 1)), .null, .null] [] L (cr_rf τ) 247 := by
            intro L hL hLT
            refine ih L (fun b k hbk => (hL b k (fun z => hbk (by unfold cr_POm; omega))).trans (hf9 b k hbk)) (fun j hjn => by rw [hL _ _ (by omega), a1]; exact hS j hjn) (fun j hji => ?_) (fun j hji => ?_) ?_ ?_
            · rw [hL 241 j (by omega), hL 242 j (by omega), hL 233 _ (by omega), hL 234 _ (by omega), hL 235 _ (by omega), a2, a3]
              by_cases q : j = i
              · subst q
                exact ⟨g5, p5, a4, fun z => a5.trans (g5 z), a6⟩
              · rw [g5' j q, p5' j q, (a7 j q).1, (a7 j q).2.1, (a7 j q).2.2]
                exact hj j (by omega)
            · rw [hL 241 j (by omega), hL 242 j (by omega), a2, a3, g5' j (by omega), p5' j (by omega)]
              exact hr j (by omega)
            · rw [hL 200 60 (by omega)]; exact a0
            · rw [show i + 1 - 1 = i by omega]; exact hLT
          refine ⟨fun _ => trivial, fun _ => ⟨hxi, trivial⟩, ?_⟩
          intro v6 ev
          simp only [hil] at ev
          have hv : (v6 = 0) ↔ ¬ (1 ≤ i ∧ cr_mtc pp t I i = true) := by
            have hst := his hf9
            have hX9 : cr_strS pp i t → J9 200 60 = cr_mX1 pp t I := fun q => by
              have qL := q.2.1
              have q0 : 0 < pL pp := q.1
              rw [a0]
              unfold cr_mX1
              rw [hpn, if_pos ⟨⟨q0, rfl, q.2.2.1, q.2.2.2⟩, by omega⟩, if_pos ⟨⟨q0, rfl, q.2.2.1, q.2.2.2⟩, by omega⟩]
            rw [ev]
            by_cases q : i = 0
            · rw [if_pos q, if_pos (hst.mpr (fun z => by have := z.1; have := z.2.1; omega))]
              exact ⟨fun _ z => by omega, fun _ => rfl⟩
            · rw [if_neg q, a2, g5 (by omega)]
              unfold cr_mtc
              by_cases y : cr_mG1 pp t I i ≤ 0
              · rw [if_pos y, decide_eq_true y, Bool.true_or]
                exact ⟨fun z => absurd z (by decide), fun z => absurd ⟨by omega, rfl⟩ z⟩
              · rw [if_neg y, decide_eq_false y, Bool.false_or]
                by_cases w : cr_strS pp i t
                · rw [if_neg (fun z => hst.mp z w), decide_eq_true w, Bool.true_and, hX9 w]
                  by_cases u : 0 < cr_mX1 pp t I
                  · rw [if_pos u, decide_eq_false (Int32.not_le.mpr u)]
                    exact ⟨fun _ z => absurd z.2 (by decide), fun _ => rfl⟩
                  · rw [if_neg u, decide_eq_true (Int32.not_lt.mp u)]
                    exact ⟨fun z => absurd z (by decide), fun z => absurd ⟨by omega, rfl⟩ z⟩
                · rw [if_pos (hst.mpr w), decide_eq_false w, Bool.false_and]
                  exact ⟨fun _ z => absurd z.2 (by decide), fun _ => rfl⟩
          have e55 : J9 200 55 = (cr_tcN (cr_mtc pp t I) t (i - 1) (I 200 55, I 200 56)).1 := congrArg Prod.fst a8
          -- no touch here: as it was
          have same : ¬ (1 ≤ i ∧ cr_mtc pp t I i = true) ∨ ¬ J9 200 55 = -1 → (J9 200 55, J9 200 56) = cr_tcN (cr_mtc pp t I) t i (I 200 55, I 200 56) := by
            intro q
            by_cases z : i = 0
            · rw [a8, z]
            · rw [show i = (i - 1) + 1 by omega, cr_tcN_s (by omega), if_neg, ← a8]
              · rw [show i - 1 + 1 = i by omega, ← e55]
                intro y
                rcases q with q | q
                · exact q ⟨by omega, y.2⟩
                · exact q y.1
          refine ⟨fun c => ?_, fun c => ⟨fun d => ?_, fun d => ?_⟩⟩
          · rintro v7 rfl
            rw [nI_1]
            exact go J9 (fun _ _ _ => rfl) (same (Or.inl (hv.mp c)))
          · rintro v8 rfl
            rw [nI_1]
            exact go J9 (fun _ _ _ => rfl) (same (Or.inr d))
          · rintro J10 rfl J11 rfl v9 rfl
            rw [nI_1]
            rw [hv, Classical.not_not] at c
            refine go _ (fun b k hbk => ?_) ?_
            · unfold cr_up
              rw [if_neg (by omega), if_neg (by omega)]
            · rw [cr_up_k (by decide), cr_up_s, cr_up_s]
              rw [show i = (i - 1) + 1 by omega, cr_tcN_s (by omega), if_pos]
              rw [show i - 1 + 1 = i by omega, ← e55]
              exact ⟨d, c.2⟩
  refine bk_yX9_goOn_0 hτ h ?_
  rw [e1]
  refine cr_loop (fun i => ∀ M : cr_I, cr_F (cr_POm t) I M → (∀ b k, b ≠ 240 → M b k = I b k) → (∀ j, j < i → M 240 j = cr_mS1 pp t I j) → (∀ j, i ≤ j → M 240 j = I 240 j) → cr_V Γ 2 [.ref 200, .int (nI t), .int (nI i), .null, .null] [] M (cr_rf τ) 247) n ?_ ?_ 0 (Nat.zero_le _) I cr_F.rf (fun _ _ _ => rfl) (fun j hj => absurd hj (Nat.not_lt_zero _)) (fun _ _ => rfl)
  · intro M hf hM hS hr
    refine bk_yX9_goOn_2 hτ h ⟨fun _ => rest M hf hM hS, fun c => absurd ?_ c⟩
    rw [hM 200 13 (by decide), eN]; exact Int32.le_refl _
  · intro i hi ih M hf hM hS hr
    have hxi : (0 : Int) ≤ (nI i).toInt ∧ (nI i).toInt < 6 := cr_ix (by omega) (by omega)
    have hmi := cr_mmk_lt hok (i := i) (by omega)
    have hfo := (hok.2.2.2.2.1 _ hmi).1
    obtain ⟨eft, hft3⟩ := cr_ofI (B := 3) hfo.1 hfo.2
    have hR := cr_POm.w hf
    refine bk_yX9_goOn_2 hτ h ⟨fun c => absurd c ?_, fun _ => ?_⟩
    · rw [hM 200 13 (by decide), eN]; exact cr_nle hi (by omega)
    · rw [cr_nc (show i < 100000 by omega), hM 213 i (by decide), hr i (Nat.le_refl _)]
      refine ⟨hxi, hok.2.2.2.1 i (by omega), ?_⟩
      rw [hM 204 _ (by decide)]
      rw [show (I 213 i).toNatClampNeg = cr_mmk I i from rfl]
      rintro v1 ev1
      have ev1' : v1 = nI (I 204 (cr_mmk I i)).toNatClampNeg := ev1.trans eft
      generalize hfte : (I 204 (cr_mmk I i)).toNatClampNeg = ft at *
      subst ev1'
      have cl : (nI ft ≤ nI t) ↔ ft ≤ t := cr_nlq (by omega) (by omega)
      have hix : ft ≤ t → (6 : Int32) * (nI t - nI ft) + nI i = nI (6 * (t - ft) + i) := fun q => by rw [pk_sub q]; exact cr_6k (by omega) (by omega)
      refine ⟨hxi, fun c => ⟨?_, trivial⟩, fun _ => trivial, ?_⟩
      · rw [hix (cl.mp c)]; exact cr_ix (by omega) (by omega)
      · rintro v2 ev2 v3 rfl
        refine ⟨⟨hxi, ?_, ?_⟩, hxi, ?_⟩
        · rw [cr_nc (show i < 100000 by omega), hM 213 i (by decide)]; exact hok.2.2.2.1 i (by omega)
        · rw [hM 200 24 (by decide)]; exact hok.2.2.1.2
        · have esl : f_yX9_slopeFor τ (nI i) M = psl pp i (I 242 i) := by
            rw [hpsl i _ hi]
            unfold f_yX9_slopeFor
            rw [cr_nc (show i < 100000 by omega), hM 213 i (by decide), hM 242 i (by decide), hM 201 _ (by decide), hM 200 24 (by decide), cr_PRm_r hR (b := 217) (by decide), cr_PRm_r hR (b := 218) (by decide), cr_PRm_r hR (b := 219) (by decide), cr_PRm_r hR (b := 220) (by decide)]
            rfl
          have hsl0 : 0 ≤ (psl pp i (I 242 i)).toInt := by
            rw [hpsl i _ hi]
            exact (cr_slope_b _ hok.2.2.2.2.2).1
          have evv : v2 = I 240 i + (if t < ft then 0 else I 236 (6 * (t - ft) + i)) := by
            rw [ev2]
            by_cases q : ft ≤ t
            · rw [if_pos (cl.mpr q), if_neg (show ¬ t < ft by omega), hix q, cr_nc (by omega), hM 236 _ (by decide)]
            · rw [if_neg (fun z => q (cl.mp z)), if_pos (show t < ft by omega)]
          have eS : f_yX9_lesser τ (if 0 ≤ v2 then v2 else 0) (f_yX9_slopeFor τ (nI i) M) M = cr_mS1 pp t I i := by
            rw [esl, cr_mclp hsl0, evv]
            unfold cr_mS1
            rw [hpft i hi, hfte]
          rw [eS]
          rintro J1 rfl v4 rfl
          rw [nI_1]
          refine ih _ (hf.up (by unfold cr_POm; omega)) (fun b k hb => by rw [cr_up_b hb]; exact hM b k hb) (fun j hj => ?_) (fun j hj => ?_)
          · by_cases q : j = i
            · rw [q, cr_up_s]
            · rw [cr_up_k q]; exact hS j (by omega)
          · rw [cr_up_k (by omega)]; exact hr j (by omega))
