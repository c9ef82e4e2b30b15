/-! shares: bits, sums over sets -/
def cr_bit (s p : Int32) : Int32 := (s >>> (p &&& 31)) &&& 1
theorem cr_and1 (x : Int32) : x &&& 1 = 0 ∨ x &&& 1 = 1 := by
  obtain ⟨j, hj, e⟩ := pk_andE x (m := 1) 1 (by decide)
  rcases (show j = 0 ∨ j = 1 by omega) with rfl | rfl
  · exact Or.inl e
  · exact Or.inr e
def cr_spS (sp : Nat → Nat → Int32) (s : Int32) : Nat → Int32 × Int32
  | 0 => (0, -1)
  | k + 1 => if cr_bit s (nI k) = 0 then cr_spS sp s k else ((cr_spS sp s k).1 + (if (cr_spS sp s k).2 = -1 then 0 else sp k (cr_spS sp s k).2.toNatClampNeg), nI k)
theorem cr_spS_l (sp : Nat → Nat → Int32) (s : Int32) : ∀ k, (cr_spS sp s k).2 = -1 ∨ ∃ j, j < k ∧ (cr_spS sp s k).2 = nI j
  | 0 => Or.inl rfl
  | k + 1 => by
    rw [cr_spS]
    split
    · rcases cr_spS_l sp s k with h | ⟨j, hj, h⟩
      · exact Or.inl h
      · exact Or.inr ⟨j, by omega, h⟩
    · exact Or.inr ⟨k, by omega, rfl⟩
def f_yX5_sparedOf (τ : Nat → Nat) (x1 : Int32) (I : cr_I) : Int32 := (cr_spS (fun p a => I (179 + p) a) x1 6).1
def p_yX5_sparedOf (τ : Nat → Nat) (x1 : Int32) (I : cr_I) : Prop := True
theorem bk_yX5_sparedOf_0 {Γ : cr_G} {K : cr_K} {τ : Nat → Nat} {I : cr_I} {x1 : Int32} (hτ : cr_tau τ)  (h : cr_Ok yX5_sparedOf cX5_sparedOf 5 (some .int) (cr_rm0 0 0) K 247 247 Γ) (hyp : cr_V Γ 7 [.ref 177, .int x1, .int (0 : Int32), .int (-1 : Int32), .int (0 : Int32)] [] I (cr_rf τ) 247) : cr_V Γ 0 [.ref 177, .int x1, .null, .null, .null] [] I (cr_rf τ) 247 := by
  refine cr_iconst h (v := (0 : Int32)) (by decide) dX5_sparedOf_0 ?_
  refine cr_istore_n h (j := 2) rfl (by decide) rfl dX5_sparedOf_1 ?_
  show cr_V Γ 2 [.ref 177, .int x1, .int (0 : Int32), .null, .null] [] I (cr_rf τ) 247
  refine cr_iconst h (v := (-1 : Int32)) (by decide) dX5_sparedOf_2 ?_
  refine cr_istore_n h (j := 3) rfl (by decide) rfl dX5_sparedOf_3 ?_
  show cr_V Γ 4 [.ref 177, .int x1, .int (0 : Int32), .int (-1 : Int32), .null] [] I (cr_rf τ) 247
  refine cr_iconst h (v := (0 : Int32)) (by decide) dX5_sparedOf_4 ?_
  refine cr_istore h (by decide) rfl dX5_sparedOf_5 ?_
  show cr_V Γ 7 [.ref 177, .int x1, .int (0 : Int32), .int (-1 : Int32), .int (0 : Int32)] [] I (cr_rf τ) 247
  exact cr_weak [true, true, true, true, true] hyp
theorem bk_yX5_sparedOf_7 {Γ : cr_G} {K : cr_K} {τ : Nat → Nat} {I : cr_I} {x1 : Int32} {x2 : Int32} {x3 : Int32} {x4 : Int32} (hτ : cr_tau τ)  (h : cr_Ok yX5_sparedOf cX5_sparedOf 5 (some .int) (cr_rm0 0 0) K 247 247 Γ) (hyp : ((6 : Int32) ≤ x4 → K (some (.int x2)) I (cr_rf τ)) ∧ (¬ (6 : Int32) ≤ x4 → ((¬ ((x1 >>> (x4 &&& 31)) &&& (1 : Int32)) = 0 → ((x3 = (-1 : Int32) → (∀ v1 : Int32, v1 = x4 + (1 : Int32) → cr_V Γ 7 [.ref 177, .int x1, .int x2, .int x4, .int v1] [] I (cr_rf τ) 247)) ∧ (¬ x3 = (-1 : Int32) → ((0 ≤ x4.toInt ∧ x4.toInt < 6) ∧ (0 ≤ x3.toInt ∧ x3.toInt < 6) ∧ (∀ v2 : Int32, v2 = (x2 + (I (179 + x4.toNatClampNeg) x3.toNatClampNeg)) → (∀ v3 : Int32, v3 = x4 + (1 : Int32) → cr_V Γ 7 [.ref 177, .int x1, .int v2, .int x4, .int v3] [] I (cr_rf τ) 247)))))) ∧ (((x1 >>> (x4 &&& 31)) &&& (1 : Int32)) = 0 → (∀ v4 : Int32, v4 = x4 + (1 : Int32) → cr_V Γ 7 [.ref 177, .int x1, .int x2, .int x3, .int v4] [] I (cr_rf τ) 247))))) : cr_V Γ 7 [.ref 177, .int x1, .int x2, .int x3, .int x4] [] I (cr_rf τ) 247 := by
  refine cr_iload h rfl dX5_sparedOf_7 ?_
  refine cr_bipush h (v := (6 : Int32)) (by decide) dX5_sparedOf_9 ?_
  refine cr_icmp_ge h (tgt := 52) (by decide) dX5_sparedOf_11 (fun c1 => ?_) (fun c1 => ?_)
  · have hyp := hyp.1 c1
    refine cr_iload_n h (j := 2) rfl rfl dX5_sparedOf_52 ?_
    refine cr_iret h rfl rfl rfl dX5_sparedOf_53 ?_
    exact hyp
  · have hyp := hyp.2 c1
    refine cr_iload_n h (j := 1) rfl rfl dX5_sparedOf_14 ?_
    refine cr_iload h rfl dX5_sparedOf_15 ?_
    refine cr_ishr h dX5_sparedOf_17 ?_
    refine cr_iconst h (v := (1 : Int32)) (by decide) dX5_sparedOf_18 ?_
    refine cr_iand h dX5_sparedOf_19 ?_
    refine cr_if_ne h (tgt := 26) (by decide) dX5_sparedOf_20 (fun c2 => ?_) (fun c2 => ?_)
    · have hyp := hyp.1 c2
      refine cr_iload_n h (j := 3) rfl rfl dX5_sparedOf_26 ?_
      refine cr_iconst h (v := (-1 : Int32)) (by decide) dX5_sparedOf_27 ?_
      refine cr_icmp_eq h (tgt := 43) (by decide) dX5_sparedOf_28 (fun c3 => ?_) (fun c3 => ?_)
      · have hyp := hyp.1 c3
        refine cr_iload h rfl dX5_sparedOf_43 ?_
        refine cr_istore_n h (j := 3) rfl (by decide) rfl dX5_sparedOf_45 ?_
        show cr_V Γ 46 [.ref 177, .int x1, .int x2, .int x4, .int x4] [] I (cr_rf τ) 247
        refine cs_inc h (v := (1 : Int32)) 4 rfl (by decide) (by decide) rfl dX5_sparedOf_46 (fun v1 ev1 => ?_)
        have hyp := hyp v1 ev1
        show cr_V Γ 49 [.ref 177, .int x1, .int x2, .int x4, .int v1] [] I (cr_rf τ) 247
        refine cr_goto h (tgt := 7) (by decide) dX5_sparedOf_49 ?_
        exact cr_weak [true, true, true, true, true] hyp
      · have hyp := hyp.2 c3
        refine cr_iload_n h (j := 2) rfl rfl dX5_sparedOf_31 ?_
        refine cr_aload_n h (j := 0) rfl rfl dX5_sparedOf_32 ?_
        refine cr_getR h (k := 0) cr_clsX5 (by decide) rfl rfl wf_X5_11 (by decide) rfl rfl dX5_sparedOf_33 ?_
        refine cr_iload h rfl dX5_sparedOf_36 ?_
        have hb1 := hyp.1
        have hyp := hyp.2
        refine cr_aald h (by decide) rfl hb1 ((kr_178 hb1).2.2 τ) dX5_sparedOf_38 ?_
        refine cr_iload_n h (j := 3) rfl rfl dX5_sparedOf_39 ?_
        refine cs_ild h (kr_178 hb1).1 (kr_178 hb1).2.1 hyp.1 (q := x3.toNatClampNeg) rfl dX5_sparedOf_40 ?_
        have hyp := hyp.2
        refine cr_iadd h dX5_sparedOf_41 ?_
        refine cs_i_n h 2 rfl (by decide) rfl dX5_sparedOf_42 (fun v2 ev2 => ?_)
        have hyp := hyp v2 ev2
        show cr_V Γ 43 [.ref 177, .int x1, .int v2, .int x3, .int x4] [] I (cr_rf τ) 247
        refine cr_iload h rfl dX5_sparedOf_43 ?_
        refine cr_istore_n h (j := 3) rfl (by decide) rfl dX5_sparedOf_45 ?_
        show cr_V Γ 46 [.ref 177, .int x1, .int v2, .int x4, .int x4] [] I (cr_rf τ) 247
        refine cs_inc h (v := (1 : Int32)) 4 rfl (by decide) (by decide) rfl dX5_sparedOf_46 (fun v3 ev3 => ?_)
        have hyp := hyp v3 ev3
        show cr_V Γ 49 [.ref 177, .int x1, .int v2, .int x4, .int v3] [] I (cr_rf τ) 247
        refine cr_goto h (tgt := 7) (by decide) dX5_sparedOf_49 ?_
        exact cr_weak [true, true, true, true, true] hyp
    · have hyp := hyp.2 c2
      refine cr_goto h (tgt := 46) (by decide) dX5_sparedOf_23 ?_
      refine cs_inc h (v := (1 : Int32)) 4 rfl (by decide) (by decide) rfl dX5_sparedOf_46 (fun v4 ev4 => ?_)
      have hyp := hyp v4 ev4
      show cr_V Γ 49 [.ref 177, .int x1, .int x2, .int x3, .int v4] [] I (cr_rf τ) 247
      refine cr_goto h (tgt := 7) (by decide) dX5_sparedOf_49 ?_
      exact cr_weak [true, true, true, true, true] hyp
abbrev T_yX5_sparedOf : cr_T := fun vs I R K => ∃ (τ : Nat → Nat) (x1 : Int32), R = cr_rf τ ∧ cr_tau τ ∧ vs = [.ref 177, .int x1] ∧ p_yX5_sparedOf τ x1 I ∧ K (some (.int (f_yX5_sparedOf τ x1 I))) I (cr_rf τ)
abbrev S_yX5_sparedOf : Prop := cr_C yX5_sparedOf cX5_sparedOf 5 (some .int) (cr_rm0 0 0) 247 247 T_yX5_sparedOf
theorem G_yX5_sparedOf (H : ∀ (Γ : cr_G) (K : cr_K) (τ : Nat → Nat) (x1 : Int32) (I : cr_I), cr_tau τ → cr_Ok yX5_sparedOf cX5_sparedOf 5 (some .int) (cr_rm0 0 0) K 247 247 Γ → p_yX5_sparedOf τ x1 I → K (some (.int (f_yX5_sparedOf τ x1 I))) I (cr_rf τ) → cr_V Γ 0 [.ref 177, .int x1, .null, .null, .null] [] I (cr_rf τ) 247) : cr_C yX5_sparedOf cX5_sparedOf 5 (some .int) (cr_rm0 0 0) 247 247 T_yX5_sparedOf := by
  refine cr_C.of (by decide +kernel) (fun vs I R K hT => ?_) (fun Γ K h vs I R hT => ?_)
  · obtain ⟨τ, x1, rfl, hτ, rfl, hp, hK⟩ := hT
    exact Nat.le_of_ble_eq_true rfl
  · obtain ⟨τ, x1, rfl, hτ, rfl, hp, hK⟩ := hT
    exact H Γ K τ x1 I hτ h hp hK
theorem C_yX5_sparedOf : cr_C yX5_sparedOf cX5_sparedOf 5 (some .int) (cr_rm0 0 0) 247 247 T_yX5_sparedOf := G_yX5_sparedOf (by
  intro Γ K τ x1 I hτ h hp hK
  unfold f_yX5_sparedOf at hK
  generalize hsp : (fun p a => I (179 + p) a) = sp at hK
  refine bk_yX5_sparedOf_0 hτ h ?_
  refine cr_loop (fun k => cr_V Γ 7 [.ref 177, .int x1, .int (cr_spS sp x1 k).1, .int (cr_spS sp x1 k).2, .int (nI k)] [] I (cr_rf τ) 247) 6 ?_ ?_ 0 (Nat.zero_le _)
  · exact bk_yX5_sparedOf_7 hτ h ⟨fun _ => hK, fun c => absurd (by decide) c⟩
  · intro k hk ih
    have hx : (0 : Int) ≤ (nI k).toInt ∧ (nI k).toInt < 6 := cr_ix (by omega) (by omega)
    have hl := cr_spS_l sp x1 k
    rw [cr_spS] at ih
    refine bk_yX5_sparedOf_7 hτ h ⟨fun c => absurd c (cr_nle hk (by decide)), fun _ => ⟨fun c => ?_, fun c => ?_⟩⟩
    · rw [if_neg (show ¬ cr_bit x1 (nI k) = 0 from c)] at ih
      refine ⟨fun c2 => ?_, fun c2 => ⟨hx, ?_, ?_⟩⟩
      · rintro v rfl
        rw [nI_1]
        rw [if_pos c2, Int32.add_zero] at ih
        exact ih
      · rcases hl with hl | ⟨j, hj, hl⟩
        · exact absurd hl c2
        · rw [hl]; exact cr_ix (by omega) (by omega)
      · rintro v rfl w rfl
        rw [nI_1, cr_nc (by omega)]
        rw [if_neg c2, ← hsp] at ih
        rw [← hsp]
        exact ih
    · rintro v rfl
      rw [nI_1]
      rw [if_pos (show cr_bit x1 (nI k) = 0 from c)] at ih
      exact ih)
def f_yX9_sparedIn (τ : Nat → Nat) (x1 : Int32) (I : cr_I) : Int32 := (cr_spS (fun p a => I 226 (6 * p + a)) x1 6).1
def p_yX9_sparedIn (τ : Nat → Nat) (x1 : Int32) (I : cr_I) : Prop := True
theorem bk_yX9_sparedIn_0 {Γ : cr_G} {K : cr_K} {τ : Nat → Nat} {I : cr_I} {x1 : Int32} (hτ : cr_tau τ)  (h : cr_Ok yX9_sparedIn cX9_sparedIn 5 (some .int) (cr_rm0 0 0) K 247 247 Γ) (hyp : cr_V Γ 7 [.ref 200, .int x1, .int (0 : Int32), .int (-1 : Int32), .int (0 : Int32)] [] I (cr_rf τ) 247) : cr_V Γ 0 [.ref 200, .int x1, .null, .null, .null] [] I (cr_rf τ) 247 := by
  refine cr_iconst h (v := (0 : Int32)) (by decide) dX9_sparedIn_0 ?_
  refine cr_istore_n h (j := 2) rfl (by decide) rfl dX9_sparedIn_1 ?_
  show cr_V Γ 2 [.ref 200, .int x1, .int (0 : Int32), .null, .null] [] I (cr_rf τ) 247
  refine cr_iconst h (v := (-1 : Int32)) (by decide) dX9_sparedIn_2 ?_
  refine cr_istore_n h (j := 3) rfl (by decide) rfl dX9_sparedIn_3 ?_
  show cr_V Γ 4 [.ref 200, .int x1, .int (0 : Int32), .int (-1 : Int32), .null] [] I (cr_rf τ) 247
  refine cr_iconst h (v := (0 : Int32)) (by decide) dX9_sparedIn_4 ?_
  refine cr_istore h (by decide) rfl dX9_sparedIn_5 ?_
  show cr_V Γ 7 [.ref 200, .int x1, .int (0 : Int32), .int (-1 : Int32), .int (0 : Int32)] [] I (cr_rf τ) 247
  exact cr_weak [true, true, true, true, true] hyp
theorem bk_yX9_sparedIn_7 {Γ : cr_G} {K : cr_K} {τ : Nat → Nat} {I : cr_I} {x1 : Int32} {x2 : Int32} {x3 : Int32} {x4 : Int32} (hτ : cr_tau τ)  (h : cr_Ok yX9_sparedIn cX9_sparedIn 5 (some .int) (cr_rm0 0 0) K 247 247 Γ) (hyp : ((6 : Int32) ≤ x4 → K (some (.int x2)) I (cr_rf τ)) ∧ (¬ (6 : Int32) ≤ x4 → ((¬ ((x1 >>> (x4 &&& 31)) &&& (1 : Int32)) = (1 : Int32) → (∀ v1 : Int32, v1 = x4 + (1 : Int32) → cr_V Γ 7 [.ref 200, .int x1, .int x2, .int x3, .int v1] [] I (cr_rf τ) 247)) ∧ (((x1 >>> (x4 &&& 31)) &&& (1 : Int32)) = (1 : Int32) → ((¬ x3 = (-1 : Int32) → ((0 ≤ (((6 : Int32) * x4) + x3).toInt ∧ (((6 : Int32) * x4) + x3).toInt < 36) ∧ True)) ∧ (x3 = (-1 : Int32) → True) ∧ (∀ v2 : Int32, v2 = (x2 + (if x3 = (-1 : Int32) then (0 : Int32) else (I 226 (((6 : Int32) * x4) + x3).toNatClampNeg))) → (∀ v3 : Int32, v3 = x4 + (1 : Int32) → cr_V Γ 7 [.ref 200, .int x1, .int v2, .int x4, .int v3] [] I (cr_rf τ) 247))))))) : cr_V Γ 7 [.ref 200, .int x1, .int x2, .int x3, .int x4] [] I (cr_rf τ) 247 := by
  refine cr_iload h rfl dX9_sparedIn_7 ?_
  refine cr_bipush h (v := (6 : Int32)) (by decide) dX9_sparedIn_9 ?_
  refine cr_icmp_ge h (tgt := 57) (by decide) dX9_sparedIn_11 (fun c1 => ?_) (fun c1 => ?_)
  · have hyp := hyp.1 c1
    refine cr_iload_n h (j := 2) rfl rfl dX9_sparedIn_57 ?_
    refine cr_iret h rfl rfl rfl dX9_sparedIn_58 ?_
    exact hyp
  · have hyp := hyp.2 c1
    refine cr_iload_n h (j := 1) rfl rfl dX9_sparedIn_14 ?_
    refine cr_iload h rfl dX9_sparedIn_15 ?_
    refine cr_ishr h dX9_sparedIn_17 ?_
    refine cr_iconst h (v := (1 : Int32)) (by decide) dX9_sparedIn_18 ?_
    refine cr_iand h dX9_sparedIn_19 ?_
    refine cr_iconst h (v := (1 : Int32)) (by decide) dX9_sparedIn_20 ?_
    refine cr_icmp_ne h (tgt := 51) (by decide) dX9_sparedIn_21 (fun c2 => ?_) (fun c2 => ?_)
    · have hyp := hyp.1 c2
      refine cs_inc h (v := (1 : Int32)) 4 rfl (by decide) (by decide) rfl dX9_sparedIn_51 (fun v1 ev1 => ?_)
      have hyp := hyp v1 ev1
      show cr_V Γ 54 [.ref 200, .int x1, .int x2, .int x3, .int v1] [] I (cr_rf τ) 247
      refine cr_goto h (tgt := 7) (by decide) dX9_sparedIn_54 ?_
      exact cr_weak [true, true, true, true, true] hyp
    · have hyp := hyp.2 c2
      refine cr_iload_n h (j := 2) rfl rfl dX9_sparedIn_24 ?_
      refine cr_iload_n h (j := 3) rfl rfl dX9_sparedIn_25 ?_
      refine cr_iconst h (v := (-1 : Int32)) (by decide) dX9_sparedIn_26 ?_
      have hsJ1 := hyp.1
      have htJ1 := hyp.2.1
      have hyp := hyp.2.2
      have J1 : cr_V Γ 46 [.ref 200, .int x1, .int x2, .int x3, .int x4] [.int (if x3 = (-1 : Int32) then (0 : Int32) else (I 226 (((6 : Int32) * x4) + x3).toNatClampNeg)), .int x2] I (cr_rf τ) 247 := by
        refine cr_iadd h dX9_sparedIn_46 ?_
        refine cs_i_n h 2 rfl (by decide) rfl dX9_sparedIn_47 (fun v2 ev2 => ?_)
        have hyp := hyp v2 ev2
        show cr_V Γ 48 [.ref 200, .int x1, .int v2, .int x3, .int x4] [] I (cr_rf τ) 247
        refine cr_iload h rfl dX9_sparedIn_48 ?_
        refine cr_istore_n h (j := 3) rfl (by decide) rfl dX9_sparedIn_50 ?_
        show cr_V Γ 51 [.ref 200, .int x1, .int v2, .int x4, .int x4] [] I (cr_rf τ) 247
        refine cs_inc h (v := (1 : Int32)) 4 rfl (by decide) (by decide) rfl dX9_sparedIn_51 (fun v3 ev3 => ?_)
        have hyp := hyp v3 ev3
        show cr_V Γ 54 [.ref 200, .int x1, .int v2, .int x4, .int v3] [] I (cr_rf τ) 247
        refine cr_goto h (tgt := 7) (by decide) dX9_sparedIn_54 ?_
        exact cr_weak [true, true, true, true, true] hyp
      refine cr_icmp_ne h (tgt := 34) (by decide) dX9_sparedIn_27 (fun c3 => ?_) (fun c3 => ?_)
      · have hyp := hsJ1 c3
        refine cr_aload_n h (j := 0) rfl rfl dX9_sparedIn_34 ?_
        refine cr_getR h (k := 35) cr_clsX9 (by decide) rfl rfl wf_X9_89 (by decide) rfl rfl dX9_sparedIn_35 ?_
        refine cr_bipush h (v := (6 : Int32)) (by decide) dX9_sparedIn_38 ?_
        refine cr_iload h rfl dX9_sparedIn_40 ?_
        refine cr_imul h dX9_sparedIn_42 ?_
        refine cr_iload_n h (j := 3) rfl rfl dX9_sparedIn_43 ?_
        refine cr_iadd h dX9_sparedIn_44 ?_
        refine cs_ild h (by decide) rfl hyp.1 (q := (((6 : Int32) * x4) + x3).toNatClampNeg) rfl dX9_sparedIn_45 ?_
        have hyp := hyp.2
        exact cr_ite (by rw [if_neg c3]) J1
      · refine cr_iconst h (v := (0 : Int32)) (by decide) dX9_sparedIn_30 ?_
        refine cr_goto h (tgt := 46) (by decide) dX9_sparedIn_31 ?_
        exact cr_ite (by rw [if_pos c3]) J1
abbrev T_yX9_sparedIn : cr_T := fun vs I R K => ∃ (τ : Nat → Nat) (x1 : Int32), R = cr_rf τ ∧ cr_tau τ ∧ vs = [.ref 200, .int x1] ∧ p_yX9_sparedIn τ x1 I ∧ K (some (.int (f_yX9_sparedIn τ x1 I))) I (cr_rf τ)
abbrev S_yX9_sparedIn : Prop := cr_C yX9_sparedIn cX9_sparedIn 5 (some .int) (cr_rm0 0 0) 247 247 T_yX9_sparedIn
theorem G_yX9_sparedIn (H : ∀ (Γ : cr_G) (K : cr_K) (τ : Nat → Nat) (x1 : Int32) (I : cr_I), cr_tau τ → cr_Ok yX9_sparedIn cX9_sparedIn 5 (some .int) (cr_rm0 0 0) K 247 247 Γ → p_yX9_sparedIn τ x1 I → K (some (.int (f_yX9_sparedIn τ x1 I))) I (cr_rf τ) → cr_V Γ 0 [.ref 200, .int x1, .null, .null, .null] [] I (cr_rf τ) 247) : cr_C yX9_sparedIn cX9_sparedIn 5 (some .int) (cr_rm0 0 0) 247 247 T_yX9_sparedIn := by
  refine cr_C.of (by decide +kernel) (fun vs I R K hT => ?_) (fun Γ K h vs I R hT => ?_)
  · obtain ⟨τ, x1, rfl, hτ, rfl, hp, hK⟩ := hT
    exact Nat.le_of_ble_eq_true rfl
  · obtain ⟨τ, x1, rfl, hτ, rfl, hp, hK⟩ := hT
    exact H Γ K τ x1 I hτ h hp hK
theorem cr_6k {k j : Nat} (hk : k < 1000) (hj : j < 1000) : (6 : Int32) * nI k + nI j = nI (6 * k + j) := by
  have : (6 : Int32) = nI 6 := rfl
  rw [this, pk_mul, nI_add]
theorem C_yX9_sparedIn : cr_C yX9_sparedIn cX9_sparedIn 5 (some .int) (cr_rm0 0 0) 247 247 T_yX9_sparedIn := G_yX9_sparedIn (by
  intro Γ K τ x1 I hτ h hp hK
  unfold f_yX9_sparedIn at hK
  generalize hsp : (fun p a => I 226 (6 * p + a)) = sp at hK
  refine bk_yX9_sparedIn_0 hτ h ?_
  refine cr_loop (fun k => cr_V Γ 7 [.ref 200, .int x1, .int (cr_spS sp x1 k).1, .int (cr_spS sp x1 k).2, .int (nI k)] [] I (cr_rf τ) 247) 6 ?_ ?_ 0 (Nat.zero_le _)
  · exact bk_yX9_sparedIn_7 hτ h ⟨fun _ => hK, fun c => absurd (by decide) c⟩
  · intro k hk ih
    have hl := cr_spS_l sp x1 k
    rw [cr_spS] at ih
    have hb := cr_and1 (x1 >>> (nI k &&& 31))
    refine bk_yX9_sparedIn_7 hτ h ⟨fun c => absurd c (cr_nle hk (by decide)), fun _ => ⟨fun c => ?_, fun c => ⟨fun c2 => ⟨?_, trivial⟩, fun _ => trivial, ?_⟩⟩⟩
    · rintro v rfl
      rw [nI_1]
      rw [if_pos (show cr_bit x1 (nI k) = 0 from hb.resolve_right c)] at ih
      exact ih
    · rcases hl with hl | ⟨j, hj, hl⟩
      · exact absurd hl c2
      · rw [hl, cr_6k (by omega) (by omega)]; exact cr_ix (by omega) (by omega)
    · rintro v rfl w rfl
      rw [nI_1]
      have c0 : ¬ cr_bit x1 (nI k) = 0 := by
        show ¬ (x1 >>> (nI k &&& 31)) &&& 1 = 0
        rw [c]; decide
      rw [if_neg c0] at ih
      have e : (if (cr_spS sp x1 k).2 = -1 then (0 : Int32) else I 226 ((6 : Int32) * nI k + (cr_spS sp x1 k).2).toNatClampNeg) = (if (cr_spS sp x1 k).2 = -1 then 0 else sp k (cr_spS sp x1 k).2.toNatClampNeg) := by
        split
        · rfl
        · rename_i c2
          rcases hl with hl | ⟨j, hj, hl⟩
          · exact absurd hl c2
          · rw [hl, cr_6k (by omega) (by omega), cr_nc (by omega), cr_nc (by omega), ← hsp]
      rw [e]
      exact ih)
def cr_pc (m : Nat) : Nat := m % 2 + m / 2 % 2 + m / 4 % 2 + m / 8 % 2 + m / 16 % 2 + m / 32 % 2 + m / 64 % 2 + m / 128 % 2
theorem cr_bc (τ : Nat → Nat) (I : cr_I) : ∀ m, m < 256 → f_yJ6_bitCount_0f7a4 τ (nI m) I = nI (cr_pc m) := by
  unfold f_yJ6_bitCount_0f7a4
  decide +kernel
def cr_bitsS (x : Int32) : Nat → Int32
  | 0 => 0
  | k + 1 => cr_bitsS x k + cr_bit x (nI k)
theorem cr_bs : ∀ m, m < 256 → cr_bitsS (nI m) 8 = nI (cr_pc m) := by decide +kernel
def f_yX9_bits (τ : Nat → Nat) (x0 : Int32) (I : cr_I) : Int32 := cr_bitsS x0 8
def p_yX9_bits (τ : Nat → Nat) (x0 : Int32) (I : cr_I) : Prop := True
theorem bk_yX9_bits_0 {Γ : cr_G} {K : cr_K} {τ : Nat → Nat} {I : cr_I} {x0 : Int32} (hτ : cr_tau τ)  (h : cr_Ok yX9_bits cX9_bits 3 (some .int) (cr_rm0 0 0) K 247 247 Γ) (hyp : cr_V Γ 4 [.int x0, .int (0 : Int32), .int (0 : Int32)] [] I (cr_rf τ) 247) : cr_V Γ 0 [.int x0, .null, .null] [] I (cr_rf τ) 247 := by
  refine cr_iconst h (v := (0 : Int32)) (by decide) dX9_bits_0 ?_
  refine cr_istore_n h (j := 1) rfl (by decide) rfl dX9_bits_1 ?_
  show cr_V Γ 2 [.int x0, .int (0 : Int32), .null] [] I (cr_rf τ) 247
  refine cr_iconst h (v := (0 : Int32)) (by decide) dX9_bits_2 ?_
  refine cr_istore_n h (j := 2) rfl (by decide) rfl dX9_bits_3 ?_
  show cr_V Γ 4 [.int x0, .int (0 : Int32), .int (0 : Int32)] [] I (cr_rf τ) 247
  exact cr_weak [true, true, true] hyp
theorem bk_yX9_bits_4 {Γ : cr_G} {K : cr_K} {τ : Nat → Nat} {I : cr_I} {x0 : Int32} {x1 : Int32} {x2 : Int32} (hτ : cr_tau τ)  (h : cr_Ok yX9_bits cX9_bits 3 (some .int) (cr_rm0 0 0) K 247 247 Γ) (hyp : ((8 : Int32) ≤ x2 → K (some (.int x1)) I (cr_rf τ)) ∧ (¬ (8 : Int32) ≤ x2 → (∀ v1 : Int32, v1 = (x1 + ((x0 >>> (x2 &&& 31)) &&& (1 : Int32))) → (∀ v2 : Int32, v2 = x2 + (1 : Int32) → cr_V Γ 4 [.int x0, .int v1, .int v2] [] I (cr_rf τ) 247)))) : cr_V Γ 4 [.int x0, .int x1, .int x2] [] I (cr_rf τ) 247 := by
  refine cr_iload_n h (j := 2) rfl rfl dX9_bits_4 ?_
  refine cr_bipush h (v := (8 : Int32)) (by decide) dX9_bits_5 ?_
  refine cr_icmp_ge h (tgt := 24) (by decide) dX9_bits_7 (fun c1 => ?_) (fun c1 => ?_)
  · have hyp := hyp.1 c1
    refine cr_iload_n h (j := 1) rfl rfl dX9_bits_24 ?_
    refine cr_iret h rfl rfl rfl dX9_bits_25 ?_
    exact hyp
  · have hyp := hyp.2 c1
    refine cr_iload_n h (j := 1) rfl rfl dX9_bits_10 ?_
    refine cr_iload_n h (j := 0) rfl rfl dX9_bits_11 ?_
    refine cr_iload_n h (j := 2) rfl rfl dX9_bits_12 ?_
    refine cr_ishr h dX9_bits_13 ?_
    refine cr_iconst h (v := (1 : Int32)) (by decide) dX9_bits_14 ?_
    refine cr_iand h dX9_bits_15 ?_
    refine cr_iadd h dX9_bits_16 ?_
    refine cs_i_n h 1 rfl (by decide) rfl dX9_bits_17 (fun v1 ev1 => ?_)
    have hyp := hyp v1 ev1
    show cr_V Γ 18 [.int x0, .int v1, .int x2] [] I (cr_rf τ) 247
    refine cs_inc h (v := (1 : Int32)) 2 rfl (by decide) (by decide) rfl dX9_bits_18 (fun v2 ev2 => ?_)
    have hyp := hyp v2 ev2
    show cr_V Γ 21 [.int x0, .int v1, .int v2] [] I (cr_rf τ) 247
    refine cr_goto h (tgt := 4) (by decide) dX9_bits_21 ?_
    exact cr_weak [true, true, true] hyp
abbrev T_yX9_bits : cr_T := fun vs I R K => ∃ (τ : Nat → Nat) (x0 : Int32), R = cr_rf τ ∧ cr_tau τ ∧ vs = [.int x0] ∧ p_yX9_bits τ x0 I ∧ K (some (.int (f_yX9_bits τ x0 I))) I (cr_rf τ)
abbrev S_yX9_bits : Prop := cr_C yX9_bits cX9_bits 3 (some .int) (cr_rm0 0 0) 247 247 T_yX9_bits
theorem G_yX9_bits (H : ∀ (Γ : cr_G) (K : cr_K) (τ : Nat → Nat) (x0 : Int32) (I : cr_I), cr_tau τ → cr_Ok yX9_bits cX9_bits 3 (some .int) (cr_rm0 0 0) K 247 247 Γ → p_yX9_bits τ x0 I → K (some (.int (f_yX9_bits τ x0 I))) I (cr_rf τ) → cr_V Γ 0 [.int x0, .null, .null] [] I (cr_rf τ) 247) : cr_C yX9_bits cX9_bits 3 (some .int) (cr_rm0 0 0) 247 247 T_yX9_bits := by
  refine cr_C.of (by decide +kernel) (fun vs I R K hT => ?_) (fun Γ K h vs I R hT => ?_)
  · obtain ⟨τ, x0, rfl, hτ, rfl, hp, hK⟩ := hT
    exact Nat.le_of_ble_eq_true rfl
  · obtain ⟨τ, x0, rfl, hτ, rfl, hp, hK⟩ := hT
    exact H Γ K τ x0 I hτ h hp hK
theorem C_yX9_bits : cr_C yX9_bits cX9_bits 3 (some .int) (cr_rm0 0 0) 247 247 T_yX9_bits := G_yX9_bits (by
  intro Γ K τ x0 I hτ h hp hK
  refine bk_yX9_bits_0 hτ h ?_
  refine cr_loop (fun k => cr_V Γ 4 [.int x0, .int (cr_bitsS x0 k), .int (nI k)] [] I (cr_rf τ) 247) 8 ?_ ?_ 0 (Nat.zero_le _)
  · exact bk_yX9_bits_4 hτ h ⟨fun _ => hK, fun c => absurd (by decide) c⟩
  · intro k hk ih
    refine bk_yX9_bits_4 hτ h ⟨fun c => absurd c (cr_nle hk (by decide)), fun _ => ?_⟩
    rintro v rfl w rfl
    rw [nI_1]
    exact ih)
def f_yX9_factorial (τ : Nat → Nat) (x0 : Int32) (I : cr_I) : Int32 := cr_tab 0 x0.toNatClampNeg
def p_yX9_factorial (τ : Nat → Nat) (x0 : Int32) (I : cr_I) : Prop := 0 ≤ x0.toInt ∧ x0.toInt ≤ 6
theorem bk_yX9_factorial_0 {Γ : cr_G} {K : cr_K} {τ : Nat → Nat} {I : cr_I} {x0 : Int32} (hτ : cr_tau τ)  (h : cr_Ok yX9_factorial cX9_factorial 3 (some .int) (cr_rm0 0 0) K 247 247 Γ) (hyp : cr_V Γ 4 [.int x0, .int (1 : Int32), .int (2 : Int32)] [] I (cr_rf τ) 247) : cr_V Γ 0 [.int x0, .null, .null] [] I (cr_rf τ) 247 := by
  refine cr_iconst h (v := (1 : Int32)) (by decide) dX9_factorial_0 ?_
  refine cr_istore_n h (j := 1) rfl (by decide) rfl dX9_factorial_1 ?_
  show cr_V Γ 2 [.int x0, .int (1 : Int32), .null] [] I (cr_rf τ) 247
  refine cr_iconst h (v := (2 : Int32)) (by decide) dX9_factorial_2 ?_
  refine cr_istore_n h (j := 2) rfl (by decide) rfl dX9_factorial_3 ?_
  show cr_V Γ 4 [.int x0, .int (1 : Int32), .int (2 : Int32)] [] I (cr_rf τ) 247
  exact cr_weak [true, true, true] hyp
theorem bk_yX9_factorial_4 {Γ : cr_G} {K : cr_K} {τ : Nat → Nat} {I : cr_I} {x0 : Int32} {x1 : Int32} {x2 : Int32} (hτ : cr_tau τ)  (h : cr_Ok yX9_factorial cX9_factorial 3 (some .int) (cr_rm0 0 0) K 247 247 Γ) (hyp : (x0 < x2 → K (some (.int x1)) I (cr_rf τ)) ∧ (¬ x0 < x2 → (∀ v1 : Int32, v1 = (x1 * x2) → (∀ v2 : Int32, v2 = x2 + (1 : Int32) → cr_V Γ 4 [.int x0, .int v1, .int v2] [] I (cr_rf τ) 247)))) : cr_V Γ 4 [.int x0, .int x1, .int x2] [] I (cr_rf τ) 247 := by
  refine cr_iload_n h (j := 2) rfl rfl dX9_factorial_4 ?_
  refine cr_iload_n h (j := 0) rfl rfl dX9_factorial_5 ?_
  refine cr_icmp_gt h (tgt := 19) (by decide) dX9_factorial_6 (fun c1 => ?_) (fun c1 => ?_)
  · have hyp := hyp.1 c1
    refine cr_iload_n h (j := 1) rfl rfl dX9_factorial_19 ?_
    refine cr_iret h rfl rfl rfl dX9_factorial_20 ?_
    exact hyp
  · have hyp := hyp.2 c1
    refine cr_iload_n h (j := 1) rfl rfl dX9_factorial_9 ?_
    refine cr_iload_n h (j := 2) rfl rfl dX9_factorial_10 ?_
    refine cr_imul h dX9_factorial_11 ?_
    refine cs_i_n h 1 rfl (by decide) rfl dX9_factorial_12 (fun v1 ev1 => ?_)
    have hyp := hyp v1 ev1
    show cr_V Γ 13 [.int x0, .int v1, .int x2] [] I (cr_rf τ) 247
    refine cs_inc h (v := (1 : Int32)) 2 rfl (by decide) (by decide) rfl dX9_factorial_13 (fun v2 ev2 => ?_)
    have hyp := hyp v2 ev2
    show cr_V Γ 16 [.int x0, .int v1, .int v2] [] I (cr_rf τ) 247
    refine cr_goto h (tgt := 4) (by decide) dX9_factorial_16 ?_
    exact cr_weak [true, true, true] hyp
abbrev T_yX9_factorial : cr_T := fun vs I R K => ∃ (τ : Nat → Nat) (x0 : Int32), R = cr_rf τ ∧ cr_tau τ ∧ vs = [.int x0] ∧ p_yX9_factorial τ x0 I ∧ K (some (.int (f_yX9_factorial τ x0 I))) I (cr_rf τ)
abbrev S_yX9_factorial : Prop := cr_C yX9_factorial cX9_factorial 3 (some .int) (cr_rm0 0 0) 247 247 T_yX9_factorial
theorem G_yX9_factorial (H : ∀ (Γ : cr_G) (K : cr_K) (τ : Nat → Nat) (x0 : Int32) (I : cr_I), cr_tau τ → cr_Ok yX9_factorial cX9_factorial 3 (some .int) (cr_rm0 0 0) K 247 247 Γ → p_yX9_factorial τ x0 I → K (some (.int (f_yX9_factorial τ x0 I))) I (cr_rf τ) → cr_V Γ 0 [.int x0, .null, .null] [] I (cr_rf τ) 247) : cr_C yX9_factorial cX9_factorial 3 (some .int) (cr_rm0 0 0) 247 247 T_yX9_factorial := by
  refine cr_C.of (by decide +kernel) (fun vs I R K hT => ?_) (fun Γ K h vs I R hT => ?_)
  · obtain ⟨τ, x0, rfl, hτ, rfl, hp, hK⟩ := hT
    exact Nat.le_of_ble_eq_true rfl
  · obtain ⟨τ, x0, rfl, hτ, rfl, hp, hK⟩ := hT
    exact H Γ K τ x0 I hτ h hp hK
theorem cr_fac1 : ∀ k, k < 6 → cr_tab 0 k * nI (k + 1) = cr_tab 0 (k + 1) := by decide +kernel
theorem C_yX9_factorial : cr_C yX9_factorial cX9_factorial 3 (some .int) (cr_rm0 0 0) 247 247 T_yX9_factorial := G_yX9_factorial (by
  intro Γ K τ x0 I hτ h hp hK
  obtain ⟨eN, hN⟩ := cr_ofI (B := 6) hp.1 hp.2
  unfold f_yX9_factorial at hK
  generalize x0.toNatClampNeg = N at eN hN hK
  subst eN
  refine bk_yX9_factorial_0 hτ h ?_
  by_cases h0 : N = 0
  · subst h0
    exact bk_yX9_factorial_4 hτ h ⟨fun _ => hK, fun c => absurd (by decide) c⟩
  · refine cr_loop (fun k => cr_V Γ 4 [.int (nI N), .int (cr_tab 0 k), .int (nI (k + 1))] [] I (cr_rf τ) 247) N ?_ ?_ 1 (by omega)
    · exact bk_yX9_factorial_4 hτ h ⟨fun _ => hK, fun c => absurd (nI_lt (by omega) (by omega)) c⟩
    · intro k hk ih
      refine bk_yX9_factorial_4 hτ h ⟨fun c => absurd c (nI_nlt (by omega) (by omega)), fun _ => ?_⟩
      rintro v rfl w rfl
      rw [nI_1, cr_fac1 k (by omega)]
      exact ih)
/-- share times all orders -/
def cr_sumS (sp : Nat → Nat → Int32) (p n : Nat) : Nat → Int32
  | 0 => 0
  | m + 1 => if cr_bit (nI m) (nI p) = 0 then cr_sumS sp p n m + cr_tab 0 (cr_pc m) * cr_tab 0 (n - 1 - cr_pc m) * ((cr_spS sp (nI m ||| ((1 : Int32) <<< (nI p &&& 31))) 6).1 - (cr_spS sp (nI m) 6).1) else cr_sumS sp p n m
theorem cr_pcn : ∀ n, n < 7 → ∀ p, p < n → ∀ m, m < 2 ^ n → cr_bit (nI m) (nI p) = 0 → cr_pc m + 1 ≤ n := by decide +kernel
theorem cr_shl : ∀ n, n < 7 → (1 : Int32) <<< (nI n &&& 31) = nI (2 ^ n) := by decide +kernel
def f_yX5_sumOverOrders (τ : Nat → Nat) (x1 x2 : Int32) (I : cr_I) : Int32 := cr_sumS (fun p a => I (179 + p) a) x1.toNatClampNeg x2.toNatClampNeg (2 ^ x2.toNatClampNeg)
def p_yX5_sumOverOrders (τ : Nat → Nat) (x1 x2 : Int32) (I : cr_I) : Prop := 0 ≤ x1.toInt ∧ x1.toInt < x2.toInt ∧ x2.toInt ≤ 6
theorem bk_yX5_sumOverOrders_0 {Γ : cr_G} {K : cr_K} {τ : Nat → Nat} {I : cr_I} {x1 : Int32} {x2 : Int32} (hτ : cr_tau τ)  (h : cr_Ok yX5_sumOverOrders cX5_sumOverOrders 7 (some .int) (cr_rm0 1 24) K 247 247 Γ) (hyp : cr_V Γ 5 [.ref 177, .int x1, .int x2, .int (0 : Int32), .int (0 : Int32), .null, .null] [] I (cr_rf τ) 247) : cr_V Γ 0 [.ref 177, .int x1, .int x2, .null, .null, .null, .null] [] I (cr_rf τ) 247 := by
  refine cr_iconst h (v := (0 : Int32)) (by decide) dX5_sumOverOrders_0 ?_
  refine cr_istore_n h (j := 3) rfl (by decide) rfl dX5_sumOverOrders_1 ?_
  show cr_V Γ 2 [.ref 177, .int x1, .int x2, .int (0 : Int32), .null, .null, .null] [] I (cr_rf τ) 247
  refine cr_iconst h (v := (0 : Int32)) (by decide) dX5_sumOverOrders_2 ?_
  refine cr_istore h (by decide) rfl dX5_sumOverOrders_3 ?_
  show cr_V Γ 5 [.ref 177, .int x1, .int x2, .int (0 : Int32), .int (0 : Int32), .null, .null] [] I (cr_rf τ) 247
  exact cr_weak [true, true, true, true, true, false, false] hyp
theorem bk_yX5_sumOverOrders_5 {Γ : cr_G} {K : cr_K} {τ : Nat → Nat} {I : cr_I} {x1 : Int32} {x2 : Int32} {x3 : Int32} {x4 : Int32} (hτ : cr_tau τ)  (h : cr_Ok yX5_sumOverOrders cX5_sumOverOrders 7 (some .int) (cr_rm0 1 24) K 247 247 Γ) (hyp : (((1 : Int32) <<< (x2 &&& 31)) ≤ x4 → K (some (.int x3)) I (cr_rf τ)) ∧ (¬ ((1 : Int32) <<< (x2 &&& 31)) ≤ x4 → ((((x4 >>> (x1 &&& 31)) &&& (1 : Int32)) = 0 → (∀ v1 : Int32, v1 = (f_yJ6_bitCount_0f7a4 τ x4 I) → ((0 ≤ v1.toInt ∧ v1.toInt < 7) ∧ (0 ≤ ((x2 - (1 : Int32)) - v1).toInt ∧ ((x2 - (1 : Int32)) - v1).toInt < 7) ∧ (∀ v2 : Int32, v2 = ((cr_tab 0 v1.toNatClampNeg) * (cr_tab 0 ((x2 - (1 : Int32)) - v1).toNatClampNeg)) → (p_yX5_sparedOf τ (x4 ||| ((1 : Int32) <<< (x1 &&& 31))) I ∧ p_yX5_sparedOf τ x4 I ∧ (∀ v3 : Int32, v3 = (x3 + (v2 * ((f_yX5_sparedOf τ (x4 ||| ((1 : Int32) <<< (x1 &&& 31))) I) - (f_yX5_sparedOf τ x4 I)))) → (∀ v4 : Int32, v4 = x4 + (1 : Int32) → cr_V Γ 5 [.ref 177, .int x1, .int x2, .int v3, .int v4, .null, .null] [] I (cr_rf τ) 247))))))) ∧ (¬ ((x4 >>> (x1 &&& 31)) &&& (1 : Int32)) = 0 → (∀ v5 : Int32, v5 = x4 + (1 : Int32) → cr_V Γ 5 [.ref 177, .int x1, .int x2, .int x3, .int v5, .null, .null] [] I (cr_rf τ) 247))))) : cr_V Γ 5 [.ref 177, .int x1, .int x2, .int x3, .int x4, .null, .null] [] I (cr_rf τ) 247 := by
  refine cr_iload h rfl dX5_sumOverOrders_5 ?_
  refine cr_iconst h (v := (1 : Int32)) (by decide) dX5_sumOverOrders_7 ?_
  refine cr_iload_n h (j := 2) rfl rfl dX5_sumOverOrders_8 ?_
  refine cr_ishl h dX5_sumOverOrders_9 ?_
  refine cr_icmp_ge h (tgt := 80) (by decide) dX5_sumOverOrders_10 (fun c1 => ?_) (fun c1 => ?_)
  · have hyp := hyp.1 c1
    refine cr_iload_n h (j := 3) rfl rfl dX5_sumOverOrders_80 ?_
    refine cr_iret h rfl rfl rfl dX5_sumOverOrders_81 ?_
    exact hyp
  · have hyp := hyp.2 c1
    refine cr_iload h rfl dX5_sumOverOrders_13 ?_
    refine cr_iload_n h (j := 1) rfl rfl dX5_sumOverOrders_15 ?_
    refine cr_ishr h dX5_sumOverOrders_16 ?_
    refine cr_iconst h (v := (1 : Int32)) (by decide) dX5_sumOverOrders_17 ?_
    refine cr_iand h dX5_sumOverOrders_18 ?_
    refine cr_if_eq h (tgt := 25) (by decide) dX5_sumOverOrders_19 (fun c2 => ?_) (fun c2 => ?_)
    · have hyp := hyp.1 c2
      refine cr_iload h rfl dX5_sumOverOrders_25 ?_
      refine cr_callS h C_yJ6_bitCount_0f7a4 cZ_yJ6_bitCount_0f7a4 wm_X5_39 ws_yJ6_bitCount_0f7a4 (cr_rmS (by decide) (by decide)) (As := [.int x4]) rfl (Nat.le_of_ble_eq_true rfl) dX5_sumOverOrders_27 ⟨τ, x4, rfl, hτ, rfl, ?_⟩
      show cr_V Γ 30 [.ref 177, .int x1, .int x2, .int x3, .int x4, .null, .null] [.int (f_yJ6_bitCount_0f7a4 τ x4 I)] I (cr_rf τ) 247
      refine cs_i h 5 (by decide) rfl dX5_sumOverOrders_30 (fun v1 ev1 => ?_)
      have hyp := hyp v1 ev1
      show cr_V Γ 32 [.ref 177, .int x1, .int x2, .int x3, .int x4, .int v1, .null] [] I (cr_rf τ) 247
      refine cr_getsN h rfl dX5_sumOverOrders_32 ?_
      refine cr_iload h rfl dX5_sumOverOrders_35 ?_
      refine cs_sald h (Or.inl ⟨rfl, hyp.1⟩) rfl dX5_sumOverOrders_37 ?_
      have hyp := hyp.2
      refine cr_getsN h rfl dX5_sumOverOrders_38 ?_
      refine cr_iload_n h (j := 2) rfl rfl dX5_sumOverOrders_41 ?_
      refine cr_iconst h (v := (1 : Int32)) (by decide) dX5_sumOverOrders_42 ?_
      refine cr_isub h dX5_sumOverOrders_43 ?_
      refine cr_iload h rfl dX5_sumOverOrders_44 ?_
      refine cr_isub h dX5_sumOverOrders_46 ?_
      refine cs_sald h (Or.inl ⟨rfl, hyp.1⟩) rfl dX5_sumOverOrders_47 ?_
      have hyp := hyp.2
      refine cr_imul h dX5_sumOverOrders_48 ?_
      refine cs_i h 6 (by decide) rfl dX5_sumOverOrders_49 (fun v2 ev2 => ?_)
      have hyp := hyp v2 ev2
      show cr_V Γ 51 [.ref 177, .int x1, .int x2, .int x3, .int x4, .int v1, .int v2] [] I (cr_rf τ) 247
      refine cr_iload_n h (j := 3) rfl rfl dX5_sumOverOrders_51 ?_
      refine cr_iload h rfl dX5_sumOverOrders_52 ?_
      refine cr_aload_n h (j := 0) rfl rfl dX5_sumOverOrders_54 ?_
      refine cr_iload h rfl dX5_sumOverOrders_55 ?_
      refine cr_iconst h (v := (1 : Int32)) (by decide) dX5_sumOverOrders_57 ?_
      refine cr_iload_n h (j := 1) rfl rfl dX5_sumOverOrders_58 ?_
      refine cr_ishl h dX5_sumOverOrders_59 ?_
      refine cr_ior h dX5_sumOverOrders_60 ?_
      refine cr_callV h (c0 := 5) (T0 := TX5) C_yX5_sparedOf cZ_yX5_sparedOf wm_X5_27 wv_yX5_sparedOf we_yX5_sparedOf (by decide) rfl rfl (cr_rmS (by decide) (by decide)) (As := [.int (x4 ||| ((1 : Int32) <<< (x1 &&& 31)))]) rfl (Nat.le_of_ble_eq_true rfl) dX5_sumOverOrders_61 ⟨τ, (x4 ||| ((1 : Int32) <<< (x1 &&& 31))), rfl, hτ, rfl, hyp.1, ?_⟩
      have hyp := hyp.2
      show cr_V Γ 64 [.ref 177, .int x1, .int x2, .int x3, .int x4, .int v1, .int v2] [.int (f_yX5_sparedOf τ (x4 ||| ((1 : Int32) <<< (x1 &&& 31))) I), .int v2, .int x3] I (cr_rf τ) 247
      refine cr_aload_n h (j := 0) rfl rfl dX5_sumOverOrders_64 ?_
      refine cr_iload h rfl dX5_sumOverOrders_65 ?_
      refine cr_callV h (c0 := 5) (T0 := TX5) C_yX5_sparedOf cZ_yX5_sparedOf wm_X5_27 wv_yX5_sparedOf we_yX5_sparedOf (by decide) rfl rfl (cr_rmS (by decide) (by decide)) (As := [.int x4]) rfl (Nat.le_of_ble_eq_true rfl) dX5_sumOverOrders_67 ⟨τ, x4, rfl, hτ, rfl, hyp.1, ?_⟩
      have hyp := hyp.2
      show cr_V Γ 70 [.ref 177, .int x1, .int x2, .int x3, .int x4, .int v1, .int v2] [.int (f_yX5_sparedOf τ x4 I), .int (f_yX5_sparedOf τ (x4 ||| ((1 : Int32) <<< (x1 &&& 31))) I), .int v2, .int x3] I (cr_rf τ) 247
      refine cr_isub h dX5_sumOverOrders_70 ?_
      refine cr_imul h dX5_sumOverOrders_71 ?_
      refine cr_iadd h dX5_sumOverOrders_72 ?_
      refine cs_i_n h 3 rfl (by decide) rfl dX5_sumOverOrders_73 (fun v3 ev3 => ?_)
      have hyp := hyp v3 ev3
      show cr_V Γ 74 [.ref 177, .int x1, .int x2, .int v3, .int x4, .int v1, .int v2] [] I (cr_rf τ) 247
      refine cs_inc h (v := (1 : Int32)) 4 rfl (by decide) (by decide) rfl dX5_sumOverOrders_74 (fun v4 ev4 => ?_)
      have hyp := hyp v4 ev4
      show cr_V Γ 77 [.ref 177, .int x1, .int x2, .int v3, .int v4, .int v1, .int v2] [] I (cr_rf τ) 247
      refine cr_goto h (tgt := 5) (by decide) dX5_sumOverOrders_77 ?_
      exact cr_weak [true, true, true, true, true, false, false] hyp
    · have hyp := hyp.2 c2
      refine cr_goto h (tgt := 74) (by decide) dX5_sumOverOrders_22 ?_
      refine cs_inc h (v := (1 : Int32)) 4 rfl (by decide) (by decide) rfl dX5_sumOverOrders_74 (fun v5 ev5 => ?_)
      have hyp := hyp v5 ev5
      show cr_V Γ 77 [.ref 177, .int x1, .int x2, .int x3, .int v5, .null, .null] [] I (cr_rf τ) 247
      refine cr_goto h (tgt := 5) (by decide) dX5_sumOverOrders_77 ?_
      exact cr_weak [true, true, true, true, true, false, false] hyp
abbrev T_yX5_sumOverOrders : cr_T := fun vs I R K => ∃ (τ : Nat → Nat) (x1 : Int32) (x2 : Int32), R = cr_rf τ ∧ cr_tau τ ∧ vs = [.ref 177, .int x1, .int x2] ∧ p_yX5_sumOverOrders τ x1 x2 I ∧ K (some (.int (f_yX5_sumOverOrders τ x1 x2 I))) I (cr_rf τ)
abbrev S_yX5_sumOverOrders : Prop := cr_C yX5_sumOverOrders cX5_sumOverOrders 7 (some .int) (cr_rm0 1 24) 247 247 T_yX5_sumOverOrders
theorem G_yX5_sumOverOrders (H : ∀ (Γ : cr_G) (K : cr_K) (τ : Nat → Nat) (x1 : Int32) (x2 : Int32) (I : cr_I), cr_tau τ → cr_Ok yX5_sumOverOrders cX5_sumOverOrders 7 (some .int) (cr_rm0 1 24) K 247 247 Γ → p_yX5_sumOverOrders τ x1 x2 I → K (some (.int (f_yX5_sumOverOrders τ x1 x2 I))) I (cr_rf τ) → cr_V Γ 0 [.ref 177, .int x1, .int x2, .null, .null, .null, .null] [] I (cr_rf τ) 247) : cr_C yX5_sumOverOrders cX5_sumOverOrders 7 (some .int) (cr_rm0 1 24) 247 247 T_yX5_sumOverOrders := by
  refine cr_C.of (by decide +kernel) (fun vs I R K hT => ?_) (fun Γ K h vs I R hT => ?_)
  · obtain ⟨τ, x1, x2, rfl, hτ, rfl, hp, hK⟩ := hT
    exact Nat.le_of_ble_eq_true rfl
  · obtain ⟨τ, x1, x2, rfl, hτ, rfl, hp, hK⟩ := hT
    exact H Γ K τ x1 x2 I hτ h hp hK
theorem C_yX5_sumOverOrders : cr_C yX5_sumOverOrders cX5_sumOverOrders 7 (some .int) (cr_rm0 1 24) 247 247 T_yX5_sumOverOrders := G_yX5_sumOverOrders (by
  intro Γ K τ x1 x2 I hτ h hp hK
  obtain ⟨h1, h2, h3⟩ := hp
  obtain ⟨eP, hP⟩ := cr_ofI (x := x1) (B := 6) h1 (by omega)
  obtain ⟨eN, hN⟩ := cr_ofI (x := x2) (B := 6) (by omega) h3
  have hpn : x1.toNatClampNeg < x2.toNatClampNeg := by
    show x1.toInt.toNat < x2.toInt.toNat
    omega
  unfold f_yX5_sumOverOrders at hK
  generalize x1.toNatClampNeg = p at *
  generalize x2.toNatClampNeg = n at *
  subst eP
  subst eN
  generalize hsp : (fun p a => I (179 + p) a) = sp at hK
  have h2n : 2 ^ n ≤ 64 := Nat.pow_le_pow_right (by omega) hN
  refine bk_yX5_sumOverOrders_0 hτ h ?_
  refine cr_loop (fun m => cr_V Γ 5 [.ref 177, .int (nI p), .int (nI n), .int (cr_sumS sp p n m), .int (nI m), .null, .null] [] I (cr_rf τ) 247) (2 ^ n) ?_ ?_ 0 (Nat.zero_le _)
  · refine bk_yX5_sumOverOrders_5 hτ h ⟨fun _ => hK, fun c => absurd ?_ c⟩
    rw [cr_shl n (by omega)]; exact Int32.le_refl _
  · intro m hm ih
    rw [cr_sumS] at ih
    refine bk_yX5_sumOverOrders_5 hτ h ⟨fun c => absurd c ?_, fun _ => ⟨fun c => ?_, fun c => ?_⟩⟩
    · rw [cr_shl n (by omega)]; exact cr_nle hm (by omega)
    · have hb := cr_pcn n (by omega) p hpn m hm c
      rw [if_pos (show cr_bit (nI m) (nI p) = 0 from c)] at ih
      intro v1 e1
      rw [cr_bc τ I m (by omega)] at e1
      subst e1
      have e2 : nI n - 1 - nI (cr_pc m) = nI (n - 1 - cr_pc m) := by
        rw [show (1 : Int32) = nI 1 from rfl, pk_sub (by omega), pk_sub (by omega)]
      rw [e2]
      refine ⟨cr_ix (by omega) (by omega), cr_ix (by omega) (by omega), ?_⟩
      rw [cr_nc (by omega), cr_nc (by omega)]
      rintro v2 rfl
      refine ⟨trivial, trivial, ?_⟩
      rintro v rfl w rfl
      rw [nI_1]
      unfold f_yX5_sparedOf
      rw [hsp]
      exact ih
    · rw [if_neg (show ¬ cr_bit (nI m) (nI p) = 0 from c)] at ih
      rintro v rfl
      rw [nI_1]
      exact ih)
def f_yX9_shareOf (τ : Nat → Nat) (x1 x2 : Int32) (I : cr_I) : Int32 := cr_sumS (fun p a => I 226 (6 * p + a)) x1.toNatClampNeg x2.toNatClampNeg (2 ^ x2.toNatClampNeg)
def p_yX9_shareOf (τ : Nat → Nat) (x1 x2 : Int32) (I : cr_I) : Prop := 0 ≤ x1.toInt ∧ x1.toInt < x2.toInt ∧ x2.toInt ≤ 6
theorem bk_yX9_shareOf_0 {Γ : cr_G} {K : cr_K} {τ : Nat → Nat} {I : cr_I} {x1 : Int32} {x2 : Int32} (hτ : cr_tau τ)  (h : cr_Ok yX9_shareOf cX9_shareOf 6 (some .int) (cr_rm0 1 24) K 247 247 Γ) (hyp : cr_V Γ 5 [.ref 200, .int x1, .int x2, .int (0 : Int32), .int (0 : Int32), .null] [] I (cr_rf τ) 247) : cr_V Γ 0 [.ref 200, .int x1, .int x2, .null, .null, .null] [] I (cr_rf τ) 247 := by
  refine cr_iconst h (v := (0 : Int32)) (by decide) dX9_shareOf_0 ?_
  refine cr_istore_n h (j := 3) rfl (by decide) rfl dX9_shareOf_1 ?_
  show cr_V Γ 2 [.ref 200, .int x1, .int x2, .int (0 : Int32), .null, .null] [] I (cr_rf τ) 247
  refine cr_iconst h (v := (0 : Int32)) (by decide) dX9_shareOf_2 ?_
  refine cr_istore h (by decide) rfl dX9_shareOf_3 ?_
  show cr_V Γ 5 [.ref 200, .int x1, .int x2, .int (0 : Int32), .int (0 : Int32), .null] [] I (cr_rf τ) 247
  exact cr_weak [true, true, true, true, true, false] hyp
theorem bk_yX9_shareOf_5 {Γ : cr_G} {K : cr_K} {τ : Nat → Nat} {I : cr_I} {x1 : Int32} {x2 : Int32} {x3 : Int32} {x4 : Int32} (hτ : cr_tau τ)  (h : cr_Ok yX9_shareOf cX9_shareOf 6 (some .int) (cr_rm0 1 24) K 247 247 Γ) (hyp : (((1 : Int32) <<< (x2 &&& 31)) ≤ x4 → K (some (.int x3)) I (cr_rf τ)) ∧ (¬ ((1 : Int32) <<< (x2 &&& 31)) ≤ x4 → ((¬ ((x4 >>> (x1 &&& 31)) &&& (1 : Int32)) = 0 → (∀ v1 : Int32, v1 = x4 + (1 : Int32) → cr_V Γ 5 [.ref 200, .int x1, .int x2, .int x3, .int v1, .null] [] I (cr_rf τ) 247)) ∧ (((x4 >>> (x1 &&& 31)) &&& (1 : Int32)) = 0 → (p_yX9_bits τ x4 I ∧ (∀ v2 : Int32, v2 = (f_yX9_bits τ x4 I) → (p_yX9_factorial τ v2 I ∧ p_yX9_factorial τ ((x2 - v2) - (1 : Int32)) I ∧ p_yX9_sparedIn τ (x4 ||| ((1 : Int32) <<< (x1 &&& 31))) I ∧ p_yX9_sparedIn τ x4 I ∧ (∀ v3 : Int32, v3 = (x3 + (((f_yX9_factorial τ v2 I) * (f_yX9_factorial τ ((x2 - v2) - (1 : Int32)) I)) * ((f_yX9_sparedIn τ (x4 ||| ((1 : Int32) <<< (x1 &&& 31))) I) - (f_yX9_sparedIn τ x4 I)))) → (∀ v4 : Int32, v4 = x4 + (1 : Int32) → cr_V Γ 5 [.ref 200, .int x1, .int x2, .int v3, .int v4, .null] [] I (cr_rf τ) 247))))))))) : cr_V Γ 5 [.ref 200, .int x1, .int x2, .int x3, .int x4, .null] [] I (cr_rf τ) 247 := by
  refine cr_iload h rfl dX9_shareOf_5 ?_
  refine cr_iconst h (v := (1 : Int32)) (by decide) dX9_shareOf_7 ?_
  refine cr_iload_n h (j := 2) rfl rfl dX9_shareOf_8 ?_
  refine cr_ishl h dX9_shareOf_9 ?_
  refine cr_icmp_ge h (tgt := 71) (by decide) dX9_shareOf_10 (fun c1 => ?_) (fun c1 => ?_)
  · have hyp := hyp.1 c1
    refine cr_iload_n h (j := 3) rfl rfl dX9_shareOf_71 ?_
    refine cr_iret h rfl rfl rfl dX9_shareOf_72 ?_
    exact hyp
  · have hyp := hyp.2 c1
    refine cr_iload h rfl dX9_shareOf_13 ?_
    refine cr_iload_n h (j := 1) rfl rfl dX9_shareOf_15 ?_
    refine cr_ishr h dX9_shareOf_16 ?_
    refine cr_iconst h (v := (1 : Int32)) (by decide) dX9_shareOf_17 ?_
    refine cr_iand h dX9_shareOf_18 ?_
    refine cr_if_ne h (tgt := 65) (by decide) dX9_shareOf_19 (fun c2 => ?_) (fun c2 => ?_)
    · have hyp := hyp.1 c2
      refine cs_inc h (v := (1 : Int32)) 4 rfl (by decide) (by decide) rfl dX9_shareOf_65 (fun v1 ev1 => ?_)
      have hyp := hyp v1 ev1
      show cr_V Γ 68 [.ref 200, .int x1, .int x2, .int x3, .int v1, .null] [] I (cr_rf τ) 247
      refine cr_goto h (tgt := 5) (by decide) dX9_shareOf_68 ?_
      exact cr_weak [true, true, true, true, true, false] hyp
    · have hyp := hyp.2 c2
      refine cr_iload h rfl dX9_shareOf_22 ?_
      refine cr_callS h C_yX9_bits cZ_yX9_bits wm_X9_326 ws_yX9_bits (cr_rmS (by decide) (by decide)) (As := [.int x4]) rfl (Nat.le_of_ble_eq_true rfl) dX9_shareOf_24 ⟨τ, x4, rfl, hτ, rfl, hyp.1, ?_⟩
      have hyp := hyp.2
      show cr_V Γ 27 [.ref 200, .int x1, .int x2, .int x3, .int x4, .null] [.int (f_yX9_bits τ x4 I)] I (cr_rf τ) 247
      refine cs_i h 5 (by decide) rfl dX9_shareOf_27 (fun v2 ev2 => ?_)
      have hyp := hyp v2 ev2
      show cr_V Γ 29 [.ref 200, .int x1, .int x2, .int x3, .int x4, .int v2] [] I (cr_rf τ) 247
      refine cr_iload_n h (j := 3) rfl rfl dX9_shareOf_29 ?_
      refine cr_iload h rfl dX9_shareOf_30 ?_
      refine cr_callS h C_yX9_factorial cZ_yX9_factorial wm_X9_361 ws_yX9_factorial (cr_rmS (by decide) (by decide)) (As := [.int v2]) rfl (Nat.le_of_ble_eq_true rfl) dX9_shareOf_32 ⟨τ, v2, rfl, hτ, rfl, hyp.1, ?_⟩
      have hyp := hyp.2
      show cr_V Γ 35 [.ref 200, .int x1, .int x2, .int x3, .int x4, .int v2] [.int (f_yX9_factorial τ v2 I), .int x3] I (cr_rf τ) 247
      refine cr_iload_n h (j := 2) rfl rfl dX9_shareOf_35 ?_
      refine cr_iload h rfl dX9_shareOf_36 ?_
      refine cr_isub h dX9_shareOf_38 ?_
      refine cr_iconst h (v := (1 : Int32)) (by decide) dX9_shareOf_39 ?_
      refine cr_isub h dX9_shareOf_40 ?_
      refine cr_callS h C_yX9_factorial cZ_yX9_factorial wm_X9_361 ws_yX9_factorial (cr_rmS (by decide) (by decide)) (As := [.int ((x2 - v2) - (1 : Int32))]) rfl (Nat.le_of_ble_eq_true rfl) dX9_shareOf_41 ⟨τ, ((x2 - v2) - (1 : Int32)), rfl, hτ, rfl, hyp.1, ?_⟩
      have hyp := hyp.2
      show cr_V Γ 44 [.ref 200, .int x1, .int x2, .int x3, .int x4, .int v2] [.int (f_yX9_factorial τ ((x2 - v2) - (1 : Int32)) I), .int (f_yX9_factorial τ v2 I), .int x3] I (cr_rf τ) 247
      refine cr_imul h dX9_shareOf_44 ?_
      refine cr_aload_n h (j := 0) rfl rfl dX9_shareOf_45 ?_
      refine cr_iload h rfl dX9_shareOf_46 ?_
      refine cr_iconst h (v := (1 : Int32)) (by decide) dX9_shareOf_48 ?_
      refine cr_iload_n h (j := 1) rfl rfl dX9_shareOf_49 ?_
      refine cr_ishl h dX9_shareOf_50 ?_
      refine cr_ior h dX9_shareOf_51 ?_
      refine cr_callV h (c0 := 9) (T0 := TX9) C_yX9_sparedIn cZ_yX9_sparedIn wm_X9_358 wv_yX9_sparedIn we_yX9_sparedIn (by decide) rfl rfl (cr_rmS (by decide) (by decide)) (As := [.int (x4 ||| ((1 : Int32) <<< (x1 &&& 31)))]) rfl (Nat.le_of_ble_eq_true rfl) dX9_shareOf_52 ⟨τ, (x4 ||| ((1 : Int32) <<< (x1 &&& 31))), rfl, hτ, rfl, hyp.1, ?_⟩
      have hyp := hyp.2
      show cr_V Γ 55 [.ref 200, .int x1, .int x2, .int x3, .int x4, .int v2] [.int (f_yX9_sparedIn τ (x4 ||| ((1 : Int32) <<< (x1 &&& 31))) I), .int ((f_yX9_factorial τ v2 I) * (f_yX9_factorial τ ((x2 - v2) - (1 : Int32)) I)), .int x3] I (cr_rf τ) 247
      refine cr_aload_n h (j := 0) rfl rfl dX9_shareOf_55 ?_
      refine cr_iload h rfl dX9_shareOf_56 ?_
      refine cr_callV h (c0 := 9) (T0 := TX9) C_yX9_sparedIn cZ_yX9_sparedIn wm_X9_358 wv_yX9_sparedIn we_yX9_sparedIn (by decide) rfl rfl (cr_rmS (by decide) (by decide)) (As := [.int x4]) rfl (Nat.le_of_ble_eq_true rfl) dX9_shareOf_58 ⟨τ, x4, rfl, hτ, rfl, hyp.1, ?_⟩
      have hyp := hyp.2
      show cr_V Γ 61 [.ref 200, .int x1, .int x2, .int x3, .int x4, .int v2] [.int (f_yX9_sparedIn τ x4 I), .int (f_yX9_sparedIn τ (x4 ||| ((1 : Int32) <<< (x1 &&& 31))) I), .int ((f_yX9_factorial τ v2 I) * (f_yX9_factorial τ ((x2 - v2) - (1 : Int32)) I)), .int x3] I (cr_rf τ) 247
      refine cr_isub h dX9_shareOf_61 ?_
      refine cr_imul h dX9_shareOf_62 ?_
      refine cr_iadd h dX9_shareOf_63 ?_
      refine cs_i_n h 3 rfl (by decide) rfl dX9_shareOf_64 (fun v3 ev3 => ?_)
      have hyp := hyp v3 ev3
      show cr_V Γ 65 [.ref 200, .int x1, .int x2, .int v3, .int x4, .int v2] [] I (cr_rf τ) 247
      refine cs_inc h (v := (1 : Int32)) 4 rfl (by decide) (by decide) rfl dX9_shareOf_65 (fun v4 ev4 => ?_)
      have hyp := hyp v4 ev4
      show cr_V Γ 68 [.ref 200, .int x1, .int x2, .int v3, .int v4, .int v2] [] I (cr_rf τ) 247
      refine cr_goto h (tgt := 5) (by decide) dX9_shareOf_68 ?_
      exact cr_weak [true, true, true, true, true, false] hyp
abbrev T_yX9_shareOf : cr_T := fun vs I R K => ∃ (τ : Nat → Nat) (x1 : Int32) (x2 : Int32), R = cr_rf τ ∧ cr_tau τ ∧ vs = [.ref 200, .int x1, .int x2] ∧ p_yX9_shareOf τ x1 x2 I ∧ K (some (.int (f_yX9_shareOf τ x1 x2 I))) I (cr_rf τ)
abbrev S_yX9_shareOf : Prop := cr_C yX9_shareOf cX9_shareOf 6 (some .int) (cr_rm0 1 24) 247 247 T_yX9_shareOf
theorem G_yX9_shareOf (H : ∀ (Γ : cr_G) (K : cr_K) (τ : Nat → Nat) (x1 : Int32) (x2 : Int32) (I : cr_I), cr_tau τ → cr_Ok yX9_shareOf cX9_shareOf 6 (some .int) (cr_rm0 1 24) K 247 247 Γ → p_yX9_shareOf τ x1 x2 I → K (some (.int (f_yX9_shareOf τ x1 x2 I))) I (cr_rf τ) → cr_V Γ 0 [.ref 200, .int x1, .int x2, .null, .null, .null] [] I (cr_rf τ) 247) : cr_C yX9_shareOf cX9_shareOf 6 (some .int) (cr_rm0 1 24) 247 247 T_yX9_shareOf := by
  refine cr_C.of (by decide +kernel) (fun vs I R K hT => ?_) (fun Γ K h vs I R hT => ?_)
  · obtain ⟨τ, x1, x2, rfl, hτ, rfl, hp, hK⟩ := hT
    exact Nat.le_of_ble_eq_true rfl
  · obtain ⟨τ, x1, x2, rfl, hτ, rfl, hp, hK⟩ := hT
    exact H Γ K τ x1 x2 I hτ h hp hK
theorem C_yX9_shareOf : cr_C yX9_shareOf cX9_shareOf 6 (some .int) (cr_rm0 1 24) 247 247 T_yX9_shareOf := G_yX9_shareOf (by
  intro Γ K τ x1 x2 I hτ h hp hK
  obtain ⟨h1, h2, h3⟩ := hp
  obtain ⟨eP, hP⟩ := cr_ofI (x := x1) (B := 6) h1 (by omega)
  obtain ⟨eN, hN⟩ := cr_ofI (x := x2) (B := 6) (by omega) h3
  have hpn : x1.toNatClampNeg < x2.toNatClampNeg := by
    show x1.toInt.toNat < x2.toInt.toNat
    omega
  unfold f_yX9_shareOf at hK
  generalize x1.toNatClampNeg = p at *
  generalize x2.toNatClampNeg = n at *
  subst eP
  subst eN
  generalize hsp : (fun p a => I 226 (6 * p + a)) = sp at hK
  have h2n : 2 ^ n ≤ 64 := Nat.pow_le_pow_right (by omega) hN
  refine bk_yX9_shareOf_0 hτ h ?_
  refine cr_loop (fun m => cr_V Γ 5 [.ref 200, .int (nI p), .int (nI n), .int (cr_sumS sp p n m), .int (nI m), .null] [] I (cr_rf τ) 247) (2 ^ n) ?_ ?_ 0 (Nat.zero_le _)
  · refine bk_yX9_shareOf_5 hτ h ⟨fun _ => hK, fun c => absurd ?_ c⟩
    rw [cr_shl n (by omega)]; exact Int32.le_refl _
  · intro m hm ih
    rw [cr_sumS] at ih
    refine bk_yX9_shareOf_5 hτ h ⟨fun c => absurd c ?_, fun _ => ⟨fun c => ?_, fun c => ?_⟩⟩
    · rw [cr_shl n (by omega)]; exact cr_nle hm (by omega)
    · rw [if_neg (show ¬ cr_bit (nI m) (nI p) = 0 from c)] at ih
      rintro v rfl
      rw [nI_1]
      exact ih
    · have hb := cr_pcn n (by omega) p hpn m hm c
      rw [if_pos (show cr_bit (nI m) (nI p) = 0 from c)] at ih
      refine ⟨trivial, ?_⟩
      intro v1 e1
      unfold f_yX9_bits at e1
      rw [cr_bs m (by omega)] at e1
      subst e1
      have e2 : nI n - nI (cr_pc m) - 1 = nI (n - 1 - cr_pc m) := by
        rw [show (1 : Int32) = nI 1 from rfl, pk_sub (by omega), pk_sub (by omega)]
        congr 1
        omega
      rw [e2]
      have q1 : (0 : Int) ≤ (nI (cr_pc m)).toInt ∧ (nI (cr_pc m)).toInt < 7 := cr_ix (by omega) (by omega)
      have q2 : (0 : Int) ≤ (nI (n - 1 - cr_pc m)).toInt ∧ (nI (n - 1 - cr_pc m)).toInt < 7 := cr_ix (by omega) (by omega)
      refine ⟨⟨q1.1, by omega⟩, ⟨q2.1, by omega⟩, trivial, trivial, ?_⟩
      rintro v rfl w rfl
      unfold f_yX9_factorial f_yX9_sparedIn
      rw [nI_1, cr_nc (by omega), cr_nc (by omega), hsp]
      exact ih)
