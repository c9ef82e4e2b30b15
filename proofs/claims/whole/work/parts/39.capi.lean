/-! least of many -/
def cr_minF (v : Int32) (a : Nat → Int32) : Nat → Int32
  | 0 => v
  | k + 1 => if a k < cr_minF v a k then a k else cr_minF v a k
def f_yX4_leastGap (τ : Nat → Nat) (x1 : Int32) (I : cr_I) : Int32 := cr_minF (I (146 + x1.toNatClampNeg) 1) (fun k => I (146 + x1.toNatClampNeg) (k + 2)) 31
def p_yX4_leastGap (τ : Nat → Nat) (x1 : Int32) (I : cr_I) : Prop := 0 ≤ x1.toInt ∧ x1.toInt < 6
def f_yX4_dipOf (τ : Nat → Nat) (x1 : Int32) (I : cr_I) : Int32 := I (139 + x1.toNatClampNeg) 0 - cr_minF (I (139 + x1.toNatClampNeg) 0) (fun k => I (139 + x1.toNatClampNeg) (k + 1)) 32
def p_yX4_dipOf (τ : Nat → Nat) (x1 : Int32) (I : cr_I) : Prop := 0 ≤ x1.toInt ∧ x1.toInt < 6
theorem bk_yX4_leastGap_0 {Γ : cr_G} {K : cr_K} {τ : Nat → Nat} {I : cr_I} {x1 : Int32} (hτ : cr_tau τ)  (h : cr_Ok yX4_leastGap cX4_leastGap 4 (some .int) (cr_rm0 1 21) K 247 247 Γ) (hyp : (0 ≤ x1.toInt ∧ x1.toInt < 6) ∧ (∀ v1 : Int32, v1 = (I (146 + x1.toNatClampNeg) 1) → cr_V Γ 11 [.ref 137, .int x1, .int v1, .int (2 : Int32)] [] I (cr_rf τ) 247)) : cr_V Γ 0 [.ref 137, .int x1, .null, .null] [] I (cr_rf τ) 247 := by
  refine cr_aload_n h (j := 0) rfl rfl dX4_leastGap_0 ?_
  refine cr_getR h (k := 1) cr_clsX4 (by decide) rfl rfl wf_X4_16 (by decide) rfl rfl dX4_leastGap_1 ?_
  refine cr_iload_n h (j := 1) rfl rfl dX4_leastGap_4 ?_
  have hb1 := hyp.1
  have hyp := hyp.2
  refine cr_aald h (by decide) rfl hb1 ((kr_145 hb1).2.2 τ) dX4_leastGap_5 ?_
  refine cr_iconst h (v := (1 : Int32)) (by decide) dX4_leastGap_6 ?_
  refine cs_ild h (kr_145 hb1).1 (kr_145 hb1).2.1 (by decide) (q := 1) (by decide) dX4_leastGap_7 ?_
  refine cs_i_n h 2 rfl (by decide) rfl dX4_leastGap_8 (fun v1 ev1 => ?_)
  have hyp := hyp v1 ev1
  show cr_V Γ 9 [.ref 137, .int x1, .int v1, .null] [] I (cr_rf τ) 247
  refine cr_iconst h (v := (2 : Int32)) (by decide) dX4_leastGap_9 ?_
  refine cr_istore_n h (j := 3) rfl (by decide) rfl dX4_leastGap_10 ?_
  show cr_V Γ 11 [.ref 137, .int x1, .int v1, .int (2 : Int32)] [] I (cr_rf τ) 247
  exact cr_weak [true, true, true, true] hyp
theorem bk_yX4_leastGap_11 {Γ : cr_G} {K : cr_K} {τ : Nat → Nat} {I : cr_I} {x1 : Int32} {x2 : Int32} {x3 : Int32} (hτ : cr_tau τ)  (h : cr_Ok yX4_leastGap cX4_leastGap 4 (some .int) (cr_rm0 1 21) K 247 247 Γ) (hyp : ((32 : Int32) < x3 → K (some (.int x2)) I (cr_rf τ)) ∧ (¬ (32 : Int32) < x3 → ((0 ≤ x1.toInt ∧ x1.toInt < 6) ∧ (0 ≤ x3.toInt ∧ x3.toInt < 33) ∧ (∀ v2 : Int32, v2 = (f_yJ9_min_7cf53 τ x2 (I (146 + x1.toNatClampNeg) x3.toNatClampNeg) I) → (∀ v3 : Int32, v3 = x3 + (1 : Int32) → cr_V Γ 11 [.ref 137, .int x1, .int v2, .int v3] [] I (cr_rf τ) 247))))) : cr_V Γ 11 [.ref 137, .int x1, .int x2, .int x3] [] I (cr_rf τ) 247 := by
  refine cr_iload_n h (j := 3) rfl rfl dX4_leastGap_11 ?_
  refine cr_bipush h (v := (32 : Int32)) (by decide) dX4_leastGap_12 ?_
  refine cr_icmp_gt h (tgt := 36) (by decide) dX4_leastGap_14 (fun c1 => ?_) (fun c1 => ?_)
  · have hyp := hyp.1 c1
    refine cr_iload_n h (j := 2) rfl rfl dX4_leastGap_36 ?_
    refine cr_iret h rfl rfl rfl dX4_leastGap_37 ?_
    exact hyp
  · have hyp := hyp.2 c1
    refine cr_iload_n h (j := 2) rfl rfl dX4_leastGap_17 ?_
    refine cr_aload_n h (j := 0) rfl rfl dX4_leastGap_18 ?_
    refine cr_getR h (k := 1) cr_clsX4 (by decide) rfl rfl wf_X4_16 (by decide) rfl rfl dX4_leastGap_19 ?_
    refine cr_iload_n h (j := 1) rfl rfl dX4_leastGap_22 ?_
    have hb2 := hyp.1
    have hyp := hyp.2
    refine cr_aald h (by decide) rfl hb2 ((kr_145 hb2).2.2 τ) dX4_leastGap_23 ?_
    refine cr_iload_n h (j := 3) rfl rfl dX4_leastGap_24 ?_
    refine cs_ild h (kr_145 hb2).1 (kr_145 hb2).2.1 hyp.1 (q := x3.toNatClampNeg) rfl dX4_leastGap_25 ?_
    have hyp := hyp.2
    refine cr_callS h C_yJ9_min_7cf53 cZ_yJ9_min_7cf53 wm_X4_63 ws_yJ9_min_7cf53 (cr_rmS (by decide) (by decide)) (As := [.int x2, .int (I (146 + x1.toNatClampNeg) x3.toNatClampNeg)]) rfl (Nat.le_of_ble_eq_true rfl) dX4_leastGap_26 ⟨τ, x2, (I (146 + x1.toNatClampNeg) x3.toNatClampNeg), rfl, hτ, rfl, ?_⟩
    show cr_V Γ 29 [.ref 137, .int x1, .int x2, .int x3] [.int (f_yJ9_min_7cf53 τ x2 (I (146 + x1.toNatClampNeg) x3.toNatClampNeg) I)] I (cr_rf τ) 247
    refine cs_i_n h 2 rfl (by decide) rfl dX4_leastGap_29 (fun v2 ev2 => ?_)
    have hyp := hyp v2 ev2
    show cr_V Γ 30 [.ref 137, .int x1, .int v2, .int x3] [] I (cr_rf τ) 247
    refine cs_inc h (v := (1 : Int32)) 3 rfl (by decide) (by decide) rfl dX4_leastGap_30 (fun v3 ev3 => ?_)
    have hyp := hyp v3 ev3
    show cr_V Γ 33 [.ref 137, .int x1, .int v2, .int v3] [] I (cr_rf τ) 247
    refine cr_goto h (tgt := 11) (by decide) dX4_leastGap_33 ?_
    exact cr_weak [true, true, true, true] hyp
abbrev T_yX4_leastGap : cr_T := fun vs I R K => ∃ (τ : Nat → Nat) (x1 : Int32), R = cr_rf τ ∧ cr_tau τ ∧ vs = [.ref 137, .int x1] ∧ p_yX4_leastGap τ x1 I ∧ K (some (.int (f_yX4_leastGap τ x1 I))) I (cr_rf τ)
abbrev S_yX4_leastGap : Prop := cr_C yX4_leastGap cX4_leastGap 4 (some .int) (cr_rm0 1 21) 247 247 T_yX4_leastGap
theorem G_yX4_leastGap (H : ∀ (Γ : cr_G) (K : cr_K) (τ : Nat → Nat) (x1 : Int32) (I : cr_I), cr_tau τ → cr_Ok yX4_leastGap cX4_leastGap 4 (some .int) (cr_rm0 1 21) K 247 247 Γ → p_yX4_leastGap τ x1 I → K (some (.int (f_yX4_leastGap τ x1 I))) I (cr_rf τ) → cr_V Γ 0 [.ref 137, .int x1, .null, .null] [] I (cr_rf τ) 247) : cr_C yX4_leastGap cX4_leastGap 4 (some .int) (cr_rm0 1 21) 247 247 T_yX4_leastGap := by
  refine cr_C.of (by decide +kernel) (fun vs I R K hT => ?_) (fun Γ K h vs I R hT => ?_)
  · obtain ⟨τ, x1, rfl, hτ, rfl, hp, hK⟩ := hT
    exact Nat.le_of_ble_eq_true rfl
  · obtain ⟨τ, x1, rfl, hτ, rfl, hp, hK⟩ := hT
    exact H Γ K τ x1 I hτ h hp hK
theorem bk_yX4_dipOf_0 {Γ : cr_G} {K : cr_K} {τ : Nat → Nat} {I : cr_I} {x1 : Int32} (hτ : cr_tau τ)  (h : cr_Ok yX4_dipOf cX4_dipOf 4 (some .int) (cr_rm0 1 21) K 247 247 Γ) (hyp : (0 ≤ x1.toInt ∧ x1.toInt < 6) ∧ (∀ v1 : Int32, v1 = (I (139 + x1.toNatClampNeg) 0) → cr_V Γ 11 [.ref 137, .int x1, .int v1, .int (1 : Int32)] [] I (cr_rf τ) 247)) : cr_V Γ 0 [.ref 137, .int x1, .null, .null] [] I (cr_rf τ) 247 := by
  refine cr_aload_n h (j := 0) rfl rfl dX4_dipOf_0 ?_
  refine cr_getR h (k := 0) cr_clsX4 (by decide) rfl rfl wf_X4_11 (by decide) rfl rfl dX4_dipOf_1 ?_
  refine cr_iload_n h (j := 1) rfl rfl dX4_dipOf_4 ?_
  have hb1 := hyp.1
  have hyp := hyp.2
  refine cr_aald h (by decide) rfl hb1 ((kr_138 hb1).2.2 τ) dX4_dipOf_5 ?_
  refine cr_iconst h (v := (0 : Int32)) (by decide) dX4_dipOf_6 ?_
  refine cs_ild h (kr_138 hb1).1 (kr_138 hb1).2.1 (by decide) (q := 0) (by decide) dX4_dipOf_7 ?_
  refine cs_i_n h 2 rfl (by decide) rfl dX4_dipOf_8 (fun v1 ev1 => ?_)
  have hyp := hyp v1 ev1
  show cr_V Γ 9 [.ref 137, .int x1, .int v1, .null] [] I (cr_rf τ) 247
  refine cr_iconst h (v := (1 : Int32)) (by decide) dX4_dipOf_9 ?_
  refine cr_istore_n h (j := 3) rfl (by decide) rfl dX4_dipOf_10 ?_
  show cr_V Γ 11 [.ref 137, .int x1, .int v1, .int (1 : Int32)] [] I (cr_rf τ) 247
  exact cr_weak [true, true, true, true] hyp
theorem bk_yX4_dipOf_11 {Γ : cr_G} {K : cr_K} {τ : Nat → Nat} {I : cr_I} {x1 : Int32} {x2 : Int32} {x3 : Int32} (hτ : cr_tau τ)  (h : cr_Ok yX4_dipOf cX4_dipOf 4 (some .int) (cr_rm0 1 21) K 247 247 Γ) (hyp : ((32 : Int32) < x3 → ((0 ≤ x1.toInt ∧ x1.toInt < 6) ∧ K (some (.int ((I (139 + x1.toNatClampNeg) 0) - x2))) I (cr_rf τ))) ∧ (¬ (32 : Int32) < x3 → ((0 ≤ x1.toInt ∧ x1.toInt < 6) ∧ (0 ≤ x3.toInt ∧ x3.toInt < 33) ∧ (∀ v2 : Int32, v2 = (f_yJ9_min_7cf53 τ x2 (I (139 + x1.toNatClampNeg) x3.toNatClampNeg) I) → (∀ v3 : Int32, v3 = x3 + (1 : Int32) → cr_V Γ 11 [.ref 137, .int x1, .int v2, .int v3] [] I (cr_rf τ) 247))))) : cr_V Γ 11 [.ref 137, .int x1, .int x2, .int x3] [] I (cr_rf τ) 247 := by
  refine cr_iload_n h (j := 3) rfl rfl dX4_dipOf_11 ?_
  refine cr_bipush h (v := (32 : Int32)) (by decide) dX4_dipOf_12 ?_
  refine cr_icmp_gt h (tgt := 36) (by decide) dX4_dipOf_14 (fun c1 => ?_) (fun c1 => ?_)
  · have hyp := hyp.1 c1
    refine cr_aload_n h (j := 0) rfl rfl dX4_dipOf_36 ?_
    refine cr_getR h (k := 0) cr_clsX4 (by decide) rfl rfl wf_X4_11 (by decide) rfl rfl dX4_dipOf_37 ?_
    refine cr_iload_n h (j := 1) rfl rfl dX4_dipOf_40 ?_
    have hb2 := hyp.1
    have hyp := hyp.2
    refine cr_aald h (by decide) rfl hb2 ((kr_138 hb2).2.2 τ) dX4_dipOf_41 ?_
    refine cr_iconst h (v := (0 : Int32)) (by decide) dX4_dipOf_42 ?_
    refine cs_ild h (kr_138 hb2).1 (kr_138 hb2).2.1 (by decide) (q := 0) (by decide) dX4_dipOf_43 ?_
    refine cr_iload_n h (j := 2) rfl rfl dX4_dipOf_44 ?_
    refine cr_isub h dX4_dipOf_45 ?_
    refine cr_iret h rfl rfl rfl dX4_dipOf_46 ?_
    exact hyp
  · have hyp := hyp.2 c1
    refine cr_iload_n h (j := 2) rfl rfl dX4_dipOf_17 ?_
    refine cr_aload_n h (j := 0) rfl rfl dX4_dipOf_18 ?_
    refine cr_getR h (k := 0) cr_clsX4 (by decide) rfl rfl wf_X4_11 (by decide) rfl rfl dX4_dipOf_19 ?_
    refine cr_iload_n h (j := 1) rfl rfl dX4_dipOf_22 ?_
    have hb3 := hyp.1
    have hyp := hyp.2
    refine cr_aald h (by decide) rfl hb3 ((kr_138 hb3).2.2 τ) dX4_dipOf_23 ?_
    refine cr_iload_n h (j := 3) rfl rfl dX4_dipOf_24 ?_
    refine cs_ild h (kr_138 hb3).1 (kr_138 hb3).2.1 hyp.1 (q := x3.toNatClampNeg) rfl dX4_dipOf_25 ?_
    have hyp := hyp.2
    refine cr_callS h C_yJ9_min_7cf53 cZ_yJ9_min_7cf53 wm_X4_63 ws_yJ9_min_7cf53 (cr_rmS (by decide) (by decide)) (As := [.int x2, .int (I (139 + x1.toNatClampNeg) x3.toNatClampNeg)]) rfl (Nat.le_of_ble_eq_true rfl) dX4_dipOf_26 ⟨τ, x2, (I (139 + x1.toNatClampNeg) x3.toNatClampNeg), rfl, hτ, rfl, ?_⟩
    show cr_V Γ 29 [.ref 137, .int x1, .int x2, .int x3] [.int (f_yJ9_min_7cf53 τ x2 (I (139 + x1.toNatClampNeg) x3.toNatClampNeg) I)] I (cr_rf τ) 247
    refine cs_i_n h 2 rfl (by decide) rfl dX4_dipOf_29 (fun v2 ev2 => ?_)
    have hyp := hyp v2 ev2
    show cr_V Γ 30 [.ref 137, .int x1, .int v2, .int x3] [] I (cr_rf τ) 247
    refine cs_inc h (v := (1 : Int32)) 3 rfl (by decide) (by decide) rfl dX4_dipOf_30 (fun v3 ev3 => ?_)
    have hyp := hyp v3 ev3
    show cr_V Γ 33 [.ref 137, .int x1, .int v2, .int v3] [] I (cr_rf τ) 247
    refine cr_goto h (tgt := 11) (by decide) dX4_dipOf_33 ?_
    exact cr_weak [true, true, true, true] hyp
abbrev T_yX4_dipOf : cr_T := fun vs I R K => ∃ (τ : Nat → Nat) (x1 : Int32), R = cr_rf τ ∧ cr_tau τ ∧ vs = [.ref 137, .int x1] ∧ p_yX4_dipOf τ x1 I ∧ K (some (.int (f_yX4_dipOf τ x1 I))) I (cr_rf τ)
abbrev S_yX4_dipOf : Prop := cr_C yX4_dipOf cX4_dipOf 4 (some .int) (cr_rm0 1 21) 247 247 T_yX4_dipOf
theorem G_yX4_dipOf (H : ∀ (Γ : cr_G) (K : cr_K) (τ : Nat → Nat) (x1 : Int32) (I : cr_I), cr_tau τ → cr_Ok yX4_dipOf cX4_dipOf 4 (some .int) (cr_rm0 1 21) K 247 247 Γ → p_yX4_dipOf τ x1 I → K (some (.int (f_yX4_dipOf τ x1 I))) I (cr_rf τ) → cr_V Γ 0 [.ref 137, .int x1, .null, .null] [] I (cr_rf τ) 247) : cr_C yX4_dipOf cX4_dipOf 4 (some .int) (cr_rm0 1 21) 247 247 T_yX4_dipOf := by
  refine cr_C.of (by decide +kernel) (fun vs I R K hT => ?_) (fun Γ K h vs I R hT => ?_)
  · obtain ⟨τ, x1, rfl, hτ, rfl, hp, hK⟩ := hT
    exact Nat.le_of_ble_eq_true rfl
  · obtain ⟨τ, x1, rfl, hτ, rfl, hp, hK⟩ := hT
    exact H Γ K τ x1 I hτ h hp hK
theorem C_yX4_leastGap : S_yX4_leastGap := G_yX4_leastGap (by
  intro Γ K τ x1 I hτ h hp hK
  unfold f_yX4_leastGap at hK
  refine bk_yX4_leastGap_0 hτ h ⟨hp, ?_⟩
  rintro v rfl
  refine cr_loop (fun k => cr_V Γ 11 [.ref 137, .int x1, .int (cr_minF (I (146 + x1.toNatClampNeg) 1) (fun k => I (146 + x1.toNatClampNeg) (k + 2)) k), .int (nI (k + 2))] [] I (cr_rf τ) 247) 31 ?_ ?_ 0 (Nat.zero_le _)
  · exact bk_yX4_leastGap_11 hτ h ⟨fun _ => hK, fun z => absurd (by decide) z⟩
  · intro k hk ih
    refine bk_yX4_leastGap_11 hτ h ⟨fun z => absurd ((cr_nlt (a := 32) (by omega) (by omega)).mp z) (by omega), fun _ => ⟨hp, cr_ix (by omega) (by omega), ?_⟩⟩
    rw [cr_nc (show k + 2 < 100000 by omega)]
    rintro v rfl w rfl
    rw [nI_1]
    exact ih)
theorem C_yX4_dipOf : S_yX4_dipOf := G_yX4_dipOf (by
  intro Γ K τ x1 I hτ h hp hK
  unfold f_yX4_dipOf at hK
  refine bk_yX4_dipOf_0 hτ h ⟨hp, ?_⟩
  rintro v rfl
  refine cr_loop (fun k => cr_V Γ 11 [.ref 137, .int x1, .int (cr_minF (I (139 + x1.toNatClampNeg) 0) (fun k => I (139 + x1.toNatClampNeg) (k + 1)) k), .int (nI (k + 1))] [] I (cr_rf τ) 247) 32 ?_ ?_ 0 (Nat.zero_le _)
  · exact bk_yX4_dipOf_11 hτ h ⟨fun _ => ⟨hp, hK⟩, fun z => absurd (by decide) z⟩
  · intro k hk ih
    refine bk_yX4_dipOf_11 hτ h ⟨fun z => absurd ((cr_nlt (a := 32) (by omega) (by omega)).mp z) (by omega), fun _ => ⟨hp, cr_ix (by omega) (by omega), ?_⟩⟩
    rw [cr_nc (show k + 1 < 100000 by omega)]
    rintro v rfl w rfl
    rw [nI_1]
    exact ih)
/-! what a bridge bears -/
def cr_wgS (pl wt : Nat → Int32) (fr to : Int32) : Nat → Int32
  | 0 => 0
  | i + 1 => if fr.toInt ≤ (pl i).toInt ∧ (pl i).toInt ≤ to.toInt then cr_wgS pl wt fr to i + wt i else cr_wgS pl wt fr to i
def f_yX4_weightBetween (τ : Nat → Nat) (x2 x3 x4 : Int32) (I : cr_I) : Int32 := cr_wgS (fun i => I (153 + i) (x4.toNatClampNeg + 1)) (fun i => I (29 + 25 * cr_cmk I i) 0) x2 x3 (cr_cn0 I)
def p_yX4_weightBetween (τ : Nat → Nat) (x2 x3 x4 : Int32) (I : cr_I) : Prop := cr_nok I ∧ (∀ i, i < 6 → 0 ≤ (I 129 i).toInt ∧ (I 129 i).toInt < 4) ∧ (0 ≤ x4.toInt ∧ x4.toInt ≤ 31)
theorem bk_yX4_weightBetween_0 {Γ : cr_G} {K : cr_K} {τ : Nat → Nat} {I : cr_I} {x2 : Int32} {x3 : Int32} {x4 : Int32} (hτ : cr_tau τ)  (h : cr_Ok yX4_weightBetween cX4_weightBetween 8 (some .int) (cr_rm0 1 21) K 247 247 Γ) (hyp : cr_V Γ 6 [.ref 137, .ref 27, .int x2, .int x3, .int x4, .int (0 : Int32), .int (0 : Int32), .null] [] I (cr_rf τ) 247) : cr_V Γ 0 [.ref 137, .ref 27, .int x2, .int x3, .int x4, .null, .null, .null] [] I (cr_rf τ) 247 := by
  refine cr_iconst h (v := (0 : Int32)) (by decide) dX4_weightBetween_0 ?_
  refine cr_istore h (by decide) rfl dX4_weightBetween_1 ?_
  show cr_V Γ 3 [.ref 137, .ref 27, .int x2, .int x3, .int x4, .int (0 : Int32), .null, .null] [] I (cr_rf τ) 247
  refine cr_iconst h (v := (0 : Int32)) (by decide) dX4_weightBetween_3 ?_
  refine cr_istore h (by decide) rfl dX4_weightBetween_4 ?_
  show cr_V Γ 6 [.ref 137, .ref 27, .int x2, .int x3, .int x4, .int (0 : Int32), .int (0 : Int32), .null] [] I (cr_rf τ) 247
  exact cr_weak [true, true, true, true, true, true, true, false] hyp
theorem bk_yX4_weightBetween_6 {Γ : cr_G} {K : cr_K} {τ : Nat → Nat} {I : cr_I} {x2 : Int32} {x3 : Int32} {x4 : Int32} {x5 : Int32} {x6 : Int32} (hτ : cr_tau τ)  (h : cr_Ok yX4_weightBetween cX4_weightBetween 8 (some .int) (cr_rm0 1 21) K 247 247 Γ) (hyp : ((I 27 1) ≤ x6 → K (some (.int x5)) I (cr_rf τ)) ∧ (¬ (I 27 1) ≤ x6 → ((0 ≤ x6.toInt ∧ x6.toInt < 6) ∧ (0 ≤ (x4 + (1 : Int32)).toInt ∧ (x4 + (1 : Int32)).toInt < 33) ∧ (∀ v1 : Int32, v1 = (I (153 + x6.toNatClampNeg) (x4 + (1 : Int32)).toNatClampNeg) → ((v1 < x2 → (∀ v2 : Int32, v2 = x6 + (1 : Int32) → cr_V Γ 6 [.ref 137, .ref 27, .int x2, .int x3, .int x4, .int x5, .int v2, .null] [] I (cr_rf τ) 247)) ∧ (¬ v1 < x2 → ((x3 < v1 → (∀ v3 : Int32, v3 = x6 + (1 : Int32) → cr_V Γ 6 [.ref 137, .ref 27, .int x2, .int x3, .int x4, .int x5, .int v3, .null] [] I (cr_rf τ) 247)) ∧ (¬ x3 < v1 → (p_yX3_makeOfLorry τ x6 I ∧ (∀ v4 : Int32, v4 = (x5 + (I (f_yX3_makeOfLorry τ x6 I) 0)) → (∀ v5 : Int32, v5 = x6 + (1 : Int32) → cr_V Γ 6 [.ref 137, .ref 27, .int x2, .int x3, .int x4, .int v4, .int v5, .null] [] I (cr_rf τ) 247))))))))))) : cr_V Γ 6 [.ref 137, .ref 27, .int x2, .int x3, .int x4, .int x5, .int x6, .null] [] I (cr_rf τ) 247 := by
  refine cr_iload h rfl dX4_weightBetween_6 ?_
  refine cr_aload_n h (j := 1) rfl rfl dX4_weightBetween_8 ?_
  refine cr_getI h (k := 1) cr_clsX3 (by decide) rfl rfl wf_X4_69 (by decide) rfl dX4_weightBetween_9 ?_
  refine cr_icmp_ge h (tgt := 61) (by decide) dX4_weightBetween_12 (fun c1 => ?_) (fun c1 => ?_)
  · have hyp := hyp.1 c1
    refine cr_iload h rfl dX4_weightBetween_61 ?_
    refine cr_iret h rfl rfl rfl dX4_weightBetween_63 ?_
    exact hyp
  · have hyp := hyp.2 c1
    refine cr_aload_n h (j := 0) rfl rfl dX4_weightBetween_15 ?_
    refine cr_getR h (k := 2) cr_clsX4 (by decide) rfl rfl wf_X4_19 (by decide) rfl rfl dX4_weightBetween_16 ?_
    refine cr_iload h rfl dX4_weightBetween_19 ?_
    have hb1 := hyp.1
    have hyp := hyp.2
    refine cr_aald h (by decide) rfl hb1 ((kr_152 hb1).2.2 τ) dX4_weightBetween_21 ?_
    refine cr_iload h rfl dX4_weightBetween_22 ?_
    refine cr_iconst h (v := (1 : Int32)) (by decide) dX4_weightBetween_24 ?_
    refine cr_iadd h dX4_weightBetween_25 ?_
    refine cs_ild h (kr_152 hb1).1 (kr_152 hb1).2.1 hyp.1 (q := (x4 + (1 : Int32)).toNatClampNeg) rfl dX4_weightBetween_26 ?_
    have hyp := hyp.2
    refine cs_i h 7 (by decide) rfl dX4_weightBetween_27 (fun v1 ev1 => ?_)
    have hyp := hyp v1 ev1
    show cr_V Γ 29 [.ref 137, .ref 27, .int x2, .int x3, .int x4, .int x5, .int x6, .int v1] [] I (cr_rf τ) 247
    refine cr_iload h rfl dX4_weightBetween_29 ?_
    refine cr_iload_n h (j := 2) rfl rfl dX4_weightBetween_31 ?_
    refine cr_icmp_lt h (tgt := 55) (by decide) dX4_weightBetween_32 (fun c2 => ?_) (fun c2 => ?_)
    · have hyp := hyp.1 c2
      refine cs_inc h (v := (1 : Int32)) 6 rfl (by decide) (by decide) rfl dX4_weightBetween_55 (fun v2 ev2 => ?_)
      have hyp := hyp v2 ev2
      show cr_V Γ 58 [.ref 137, .ref 27, .int x2, .int x3, .int x4, .int x5, .int v2, .int v1] [] I (cr_rf τ) 247
      refine cr_goto h (tgt := 6) (by decide) dX4_weightBetween_58 ?_
      exact cr_weak [true, true, true, true, true, true, true, false] hyp
    · have hyp := hyp.2 c2
      refine cr_iload h rfl dX4_weightBetween_35 ?_
      refine cr_iload_n h (j := 3) rfl rfl dX4_weightBetween_37 ?_
      refine cr_icmp_gt h (tgt := 55) (by decide) dX4_weightBetween_38 (fun c3 => ?_) (fun c3 => ?_)
      · have hyp := hyp.1 c3
        refine cs_inc h (v := (1 : Int32)) 6 rfl (by decide) (by decide) rfl dX4_weightBetween_55 (fun v3 ev3 => ?_)
        have hyp := hyp v3 ev3
        show cr_V Γ 58 [.ref 137, .ref 27, .int x2, .int x3, .int x4, .int x5, .int v3, .int v1] [] I (cr_rf τ) 247
        refine cr_goto h (tgt := 6) (by decide) dX4_weightBetween_58 ?_
        exact cr_weak [true, true, true, true, true, true, true, false] hyp
      · have hyp := hyp.2 c3
        refine cr_iload h rfl dX4_weightBetween_41 ?_
        refine cr_aload_n h (j := 1) rfl rfl dX4_weightBetween_43 ?_
        refine cr_iload h rfl dX4_weightBetween_44 ?_
        have hp1 := hyp.1
        refine cr_callV h (c0 := 3) (T0 := TX3) C_yX3_makeOfLorry cZ_yX3_makeOfLorry wm_X4_74 wv_yX3_makeOfLorry we_yX3_makeOfLorry (by decide) rfl rfl (cr_rmS (by decide) (by decide)) (As := [.int x6]) rfl (Nat.le_of_ble_eq_true rfl) dX4_weightBetween_46 ⟨τ, x6, rfl, hτ, rfl, hyp.1, ?_⟩
        have hyp := hyp.2
        show cr_V Γ 49 [.ref 137, .ref 27, .int x2, .int x3, .int x4, .int x5, .int x6, .int v1] [.ref (f_yX3_makeOfLorry τ x6 I), .int x5] I (cr_rf τ) 247
        refine cr_getI h (k := 0) cr_clsX2 (by decide) rfl rfl wf_X4_78 (mo_ok hp1).1 (mo_ok hp1).2.1 dX4_weightBetween_49 ?_
        refine cr_iadd h dX4_weightBetween_52 ?_
        refine cs_i h 5 (by decide) rfl dX4_weightBetween_53 (fun v4 ev4 => ?_)
        have hyp := hyp v4 ev4
        show cr_V Γ 55 [.ref 137, .ref 27, .int x2, .int x3, .int x4, .int v4, .int x6, .int v1] [] I (cr_rf τ) 247
        refine cs_inc h (v := (1 : Int32)) 6 rfl (by decide) (by decide) rfl dX4_weightBetween_55 (fun v5 ev5 => ?_)
        have hyp := hyp v5 ev5
        show cr_V Γ 58 [.ref 137, .ref 27, .int x2, .int x3, .int x4, .int v4, .int v5, .int v1] [] I (cr_rf τ) 247
        refine cr_goto h (tgt := 6) (by decide) dX4_weightBetween_58 ?_
        exact cr_weak [true, true, true, true, true, true, true, false] hyp
abbrev T_yX4_weightBetween : cr_T := fun vs I R K => ∃ (τ : Nat → Nat) (x2 : Int32) (x3 : Int32) (x4 : Int32), R = cr_rf τ ∧ cr_tau τ ∧ vs = [.ref 137, .ref 27, .int x2, .int x3, .int x4] ∧ p_yX4_weightBetween τ x2 x3 x4 I ∧ K (some (.int (f_yX4_weightBetween τ x2 x3 x4 I))) I (cr_rf τ)
abbrev S_yX4_weightBetween : Prop := cr_C yX4_weightBetween cX4_weightBetween 8 (some .int) (cr_rm0 1 21) 247 247 T_yX4_weightBetween
theorem G_yX4_weightBetween (H : ∀ (Γ : cr_G) (K : cr_K) (τ : Nat → Nat) (x2 : Int32) (x3 : Int32) (x4 : Int32) (I : cr_I), cr_tau τ → cr_Ok yX4_weightBetween cX4_weightBetween 8 (some .int) (cr_rm0 1 21) K 247 247 Γ → p_yX4_weightBetween τ x2 x3 x4 I → K (some (.int (f_yX4_weightBetween τ x2 x3 x4 I))) I (cr_rf τ) → cr_V Γ 0 [.ref 137, .ref 27, .int x2, .int x3, .int x4, .null, .null, .null] [] I (cr_rf τ) 247) : cr_C yX4_weightBetween cX4_weightBetween 8 (some .int) (cr_rm0 1 21) 247 247 T_yX4_weightBetween := by
  refine cr_C.of (by decide +kernel) (fun vs I R K hT => ?_) (fun Γ K h vs I R hT => ?_)
  · obtain ⟨τ, x2, x3, x4, rfl, hτ, rfl, hp, hK⟩ := hT
    exact Nat.le_of_ble_eq_true rfl
  · obtain ⟨τ, x2, x3, x4, rfl, hτ, rfl, hp, hK⟩ := hT
    exact H Γ K τ x2 x3 x4 I hτ h hp hK
theorem C_yX4_weightBetween : S_yX4_weightBetween := G_yX4_weightBetween (by
  intro Γ K τ x2 x3 x4 I hτ h hp hK
  obtain ⟨hno, hmk, h40, h41⟩ := hp
  obtain ⟨eN, h1, h6⟩ := hno.un
  obtain ⟨e4, ht⟩ := cr_ofI (B := 31) h40 h41
  unfold f_yX4_weightBetween at hK
  generalize cr_cn0 I = n at *
  generalize x4.toNatClampNeg = t at *
  refine bk_yX4_weightBetween_0 hτ h ?_
  rw [e4]
  refine cr_loop (fun i => cr_V Γ 6 [.ref 137, .ref 27, .int x2, .int x3, .int (nI t), .int (cr_wgS (fun i => I (153 + i) (t + 1)) (fun i => I (29 + 25 * cr_cmk I i) 0) x2 x3 i), .int (nI i), .null] [] I (cr_rf τ) 247) n ?_ ?_ 0 (Nat.zero_le _)
  · refine bk_yX4_weightBetween_6 hτ h ⟨fun _ => hK, fun z => absurd ?_ z⟩
    rw [eN]; exact Int32.le_refl _
  · intro i hi ih
    have hxi : (0 : Int) ≤ (nI i).toInt ∧ (nI i).toInt < 6 := cr_ix (by omega) (by omega)
    refine bk_yX4_weightBetween_6 hτ h ⟨fun z => absurd z ?_, fun _ => ?_⟩
    · rw [eN]; exact cr_nle hi (by omega)
    · rw [nI_1, cr_nc (show i < 100000 by omega), cr_nc (show t + 1 < 100000 by omega)]
      refine ⟨hxi, cr_ix (by omega) (by omega), ?_⟩
      rintro v rfl
      rw [cr_lt, cr_lt]
      refine ⟨fun c => ?_, fun c => ⟨fun d => ?_, fun d => ⟨⟨hxi, ?_, trivial⟩, ?_⟩⟩⟩
      · rintro v rfl
        rw [nI_1]
        simpa only [cr_wgS, if_neg (show ¬ (x2.toInt ≤ (I (153 + i) (t + 1)).toInt ∧ (I (153 + i) (t + 1)).toInt ≤ x3.toInt) by omega)] using ih
      · rintro v rfl
        rw [nI_1]
        simpa only [cr_wgS, if_neg (show ¬ (x2.toInt ≤ (I (153 + i) (t + 1)).toInt ∧ (I (153 + i) (t + 1)).toInt ≤ x3.toInt) by omega)] using ih
      · rw [cr_nc (by omega)]; exact hmk i (by omega)
      · have em : f_yX3_makeOfLorry τ (nI i) I = 29 + 25 * cr_cmk I i := by
          unfold f_yX3_makeOfLorry cr_cmk
          rw [cr_nc (show i < 100000 by omega)]
        rw [em]
        rintro v rfl w rfl
        rw [nI_1]
        simpa only [cr_wgS, if_pos (show (x2.toInt ≤ (I (153 + i) (t + 1)).toInt ∧ (I (153 + i) (t + 1)).toInt ≤ x3.toInt) by omega)] using ih)
def t_yX8_driveAsTold (τ : Nat → Nat) (I : cr_I) (Q : cr_I → Prop) : Prop := p_yX4_drive τ (I 130 0) (I 130 2) (I 27 4) I ∧ (∀ (J1 : cr_I), q_yX4_drive τ (I 130 0) (I 130 2) (I 27 4) I J1 → Q J1)
abbrev T_yX8_driveAsTold : cr_T := fun vs I R K => ∃ (τ : Nat → Nat) (Q : cr_I → Prop), R = cr_rf τ ∧ cr_tau τ ∧ vs = [.ref 0] ∧ t_yX8_driveAsTold τ I Q ∧ ∀ J, Q J → K none J (cr_rf τ)
theorem C_yX8_driveAsTold : cr_C yX8_driveAsTold cX8_driveAsTold 1 none (cr_rm0 5 124) 247 247 T_yX8_driveAsTold := by
  refine cr_C.of (by decide +kernel) (fun vs I R K hT => ?_) (fun Γ K h vs I R hT => ?_)
  · obtain ⟨τ, Q, rfl, hτ, rfl, hyp, hK⟩ := hT
    exact Nat.le_of_ble_eq_true rfl
  · obtain ⟨τ, Q, rfl, hτ, rfl, hyp, hK⟩ := hT
    unfold t_yX8_driveAsTold at hyp
    show cr_V Γ 0 [.ref 0] [] I (cr_rf τ) 247
    refine cr_aload_n h (j := 0) rfl rfl dX8_driveAsTold_0 ?_
    refine cr_getR h (k := 2) cr_clsX8 (by decide) rfl rfl wf_X8_26 (by decide) rfl rfl dX8_driveAsTold_1 ?_
    refine cr_aload_n h (j := 0) rfl rfl dX8_driveAsTold_4 ?_
    refine cr_getR h (k := 1) cr_clsX8 (by decide) rfl rfl wf_X8_19 (by decide) rfl rfl dX8_driveAsTold_5 ?_
    refine cr_aload_n h (j := 0) rfl rfl dX8_driveAsTold_8 ?_
    refine cr_getR h (k := 1) cr_clsX8 (by decide) rfl rfl wf_X8_19 (by decide) rfl rfl dX8_driveAsTold_9 ?_
    refine cr_getR h (k := 3) cr_clsX3 (by decide) rfl rfl wf_X8_116 (by decide) rfl rfl dX8_driveAsTold_12 ?_
    refine cr_iconst h (v := (0 : Int32)) (by decide) dX8_driveAsTold_15 ?_
    refine cs_ild h (by decide) rfl (by decide) (q := 0) (by decide) dX8_driveAsTold_16 ?_
    refine cr_aload_n h (j := 0) rfl rfl dX8_driveAsTold_17 ?_
    refine cr_getR h (k := 1) cr_clsX8 (by decide) rfl rfl wf_X8_19 (by decide) rfl rfl dX8_driveAsTold_18 ?_
    refine cr_getR h (k := 3) cr_clsX3 (by decide) rfl rfl wf_X8_116 (by decide) rfl rfl dX8_driveAsTold_21 ?_
    refine cr_iconst h (v := (2 : Int32)) (by decide) dX8_driveAsTold_24 ?_
    refine cs_ild h (by decide) rfl (by decide) (q := 2) (by decide) dX8_driveAsTold_25 ?_
    refine cr_aload_n h (j := 0) rfl rfl dX8_driveAsTold_26 ?_
    refine cr_getR h (k := 1) cr_clsX8 (by decide) rfl rfl wf_X8_19 (by decide) rfl rfl dX8_driveAsTold_27 ?_
    refine cr_getI h (k := 4) cr_clsX3 (by decide) rfl rfl wf_X8_128 (by decide) rfl dX8_driveAsTold_30 ?_
    refine cr_callV h (c0 := 4) (T0 := TX4) C_yX4_drive cZ_yX4_drive wm_X8_316 wv_yX4_drive we_yX4_drive (by decide) rfl rfl (cr_rmS (by decide) (by decide)) (As := [.ref 27, .int (I 130 0), .int (I 130 2), .int (I 27 4)]) rfl (Nat.le_of_ble_eq_true rfl) dX8_driveAsTold_33 ⟨τ, (I 130 0), (I 130 2), (I 27 4), rfl, hτ, rfl, hyp.1, fun J1 q1 => ?_⟩
    have hyp := hyp.2 J1 q1
    show cr_V Γ 36 [.ref 0] [] J1 (cr_rf τ) 247
    refine cr_vret h rfl rfl dX8_driveAsTold_36 ?_
    exact hK _ hyp
def t_yX8_at (τ : Nat → Nat) (x1 : Int32) (x2 : Int32) (x3 : Int32) (I : cr_I) (Q : Int32 → cr_I → Prop) : Prop := (¬ (f_yX8_isNoLorry τ x1 I) = 0 → Q (-2147483648 : Int32) I) ∧ ((f_yX8_isNoLorry τ x1 I) = 0 → ((¬ (f_yX8_isOutside τ x2 (0 : Int32) (31 : Int32) I) = 0 → Q (-2147483648 : Int32) I) ∧ ((f_yX8_isOutside τ x2 (0 : Int32) (31 : Int32) I) = 0 → (((f_yX8_isOutside τ x3 (0 : Int32) (5 : Int32) I) = 0 → (t_yX8_driveAsTold τ I (fun (J1 : cr_I) => ∀ v1 : Int32, v1 = (if x1 = 0 then (1 : Int32) else (0 : Int32)) → (((x3.toInt < 0 ∨ 4 < x3.toInt) → ((v1 = 0 → ((0 ≤ x2.toInt ∧ x2.toInt < 32) ∧ Q (J1 167 x2.toNatClampNeg) J1)) ∧ (¬ v1 = 0 → Q (99 : Int32) J1))) ∧ (x3 = Int32.ofNat 0 → ((0 ≤ x1.toInt ∧ x1.toInt < 6) ∧ (0 ≤ (x2 + (1 : Int32)).toInt ∧ (x2 + (1 : Int32)).toInt < 33) ∧ Q (J1 (139 + x1.toNatClampNeg) (x2 + (1 : Int32)).toNatClampNeg) J1)) ∧ (x3 = Int32.ofNat 1 → ((v1 = 0 → ((0 ≤ x1.toInt ∧ x1.toInt < 6) ∧ (0 ≤ (x2 + (1 : Int32)).toInt ∧ (x2 + (1 : Int32)).toInt < 33) ∧ Q (J1 (146 + x1.toNatClampNeg) (x2 + (1 : Int32)).toNatClampNeg) J1)) ∧ (¬ v1 = 0 → Q (-1 : Int32) J1))) ∧ (x3 = Int32.ofNat 2 → ((0 ≤ x1.toInt ∧ x1.toInt < 6) ∧ (0 ≤ (x2 + (1 : Int32)).toInt ∧ (x2 + (1 : Int32)).toInt < 33) ∧ Q (J1 (153 + x1.toNatClampNeg) (x2 + (1 : Int32)).toNatClampNeg) J1)) ∧ (x3 = Int32.ofNat 3 → ((0 ≤ x1.toInt ∧ x1.toInt < 6) ∧ (0 ≤ x2.toInt ∧ x2.toInt < 32) ∧ Q (J1 (160 + x1.toNatClampNeg) x2.toNatClampNeg) J1)) ∧ (x3 = Int32.ofNat 4 → ((v1 = 0 → ((0 ≤ x2.toInt ∧ x2.toInt < 32) ∧ Q (J1 166 x2.toNatClampNeg) J1)) ∧ (¬ v1 = 0 → Q (0 : Int32) J1))))))) ∧ (¬ (f_yX8_isOutside τ x3 (0 : Int32) (5 : Int32) I) = 0 → Q (-2147483648 : Int32) I)))))
abbrev T_yX8_at : cr_T := fun vs I R K => ∃ (τ : Nat → Nat) (x1 : Int32) (x2 : Int32) (x3 : Int32) (Q : Int32 → cr_I → Prop), R = cr_rf τ ∧ cr_tau τ ∧ vs = [.ref 0, .int x1, .int x2, .int x3] ∧ t_yX8_at τ x1 x2 x3 I Q ∧ ∀ r J, Q r J → K (some (.int r)) J (cr_rf τ)
theorem C_yX8_at : cr_C yX8_at cX8_at 5 (some .int) (cr_rm0 6 144) 247 247 T_yX8_at := by
  refine cr_C.of (by decide +kernel) (fun vs I R K hT => ?_) (fun Γ K h vs I R hT => ?_)
  · obtain ⟨τ, x1, x2, x3, Q, rfl, hτ, rfl, hyp, hK⟩ := hT
    exact Nat.le_of_ble_eq_true rfl
  · obtain ⟨τ, x1, x2, x3, Q, rfl, hτ, rfl, hyp, hK⟩ := hT
    unfold t_yX8_at at hyp
    show cr_V Γ 0 [.ref 0, .int x1, .int x2, .int x3, .null] [] I (cr_rf τ) 247
    refine cr_aload_n h (j := 0) rfl rfl dX8_at_0 ?_
    refine cr_iload_n h (j := 1) rfl rfl dX8_at_1 ?_
    refine cr_callV h (c0 := 8) (T0 := TX8) C_yX8_isNoLorry cZ_yX8_isNoLorry wm_X8_165 wv_yX8_isNoLorry we_yX8_isNoLorry (by decide) rfl rfl (cr_rmS (by decide) (by decide)) (As := [.int x1]) rfl (Nat.le_of_ble_eq_true rfl) dX8_at_2 ⟨τ, x1, rfl, hτ, rfl, ?_⟩
    show cr_V Γ 5 [.ref 0, .int x1, .int x2, .int x3, .null] [.int (f_yX8_isNoLorry τ x1 I)] I (cr_rf τ) 247
    refine cr_if_ne h (tgt := 27) (by decide) dX8_at_5 (fun c1 => ?_) (fun c1 => ?_)
    · have hyp := hyp.1 c1
      refine cr_ldc h wc_X8_168 dX8_at_27 ?_
      refine cr_iret h rfl rfl rfl dX8_at_29 ?_
      exact hK _ _ hyp
    · have hyp := hyp.2 c1
      refine cr_iload_n h (j := 2) rfl rfl dX8_at_8 ?_
      refine cr_iconst h (v := (0 : Int32)) (by decide) dX8_at_9 ?_
      refine cr_bipush h (v := (31 : Int32)) (by decide) dX8_at_10 ?_
      refine cr_callS h C_yX8_isOutside cZ_yX8_isOutside wm_X8_55 ws_yX8_isOutside (cr_rmS (by decide) (by decide)) (As := [.int x2, .int (0 : Int32), .int (31 : Int32)]) rfl (Nat.le_of_ble_eq_true rfl) dX8_at_12 ⟨τ, x2, (0 : Int32), (31 : Int32), rfl, hτ, rfl, ?_⟩
      show cr_V Γ 15 [.ref 0, .int x1, .int x2, .int x3, .null] [.int (f_yX8_isOutside τ x2 (0 : Int32) (31 : Int32) I)] I (cr_rf τ) 247
      refine cr_if_ne h (tgt := 27) (by decide) dX8_at_15 (fun c2 => ?_) (fun c2 => ?_)
      · have hyp := hyp.1 c2
        refine cr_ldc h wc_X8_168 dX8_at_27 ?_
        refine cr_iret h rfl rfl rfl dX8_at_29 ?_
        exact hK _ _ hyp
      · have hyp := hyp.2 c2
        refine cr_iload_n h (j := 3) rfl rfl dX8_at_18 ?_
        refine cr_iconst h (v := (0 : Int32)) (by decide) dX8_at_19 ?_
        refine cr_iconst h (v := (5 : Int32)) (by decide) dX8_at_20 ?_
        refine cr_callS h C_yX8_isOutside cZ_yX8_isOutside wm_X8_55 ws_yX8_isOutside (cr_rmS (by decide) (by decide)) (As := [.int x3, .int (0 : Int32), .int (5 : Int32)]) rfl (Nat.le_of_ble_eq_true rfl) dX8_at_21 ⟨τ, x3, (0 : Int32), (5 : Int32), rfl, hτ, rfl, ?_⟩
        show cr_V Γ 24 [.ref 0, .int x1, .int x2, .int x3, .null] [.int (f_yX8_isOutside τ x3 (0 : Int32) (5 : Int32) I)] I (cr_rf τ) 247
        refine cr_if_eq h (tgt := 30) (by decide) dX8_at_24 (fun c3 => ?_) (fun c3 => ?_)
        · have hyp := hyp.1 c3
          refine cr_aload_n h (j := 0) rfl rfl dX8_at_30 ?_
          refine cr_callV h (c0 := 8) (T0 := TX8) C_yX8_driveAsTold cZ_yX8_driveAsTold wm_X8_169 wv_yX8_driveAsTold we_yX8_driveAsTold (by decide) rfl rfl (cr_rmS (by decide) (by decide)) (As := []) rfl (Nat.le_of_ble_eq_true rfl) dX8_at_31 ⟨τ, _, rfl, hτ, rfl, hyp, fun J1 hyp => ?_⟩
          show cr_V Γ 34 [.ref 0, .int x1, .int x2, .int x3, .null] [] J1 (cr_rf τ) 247
          refine cr_iload_n h (j := 1) rfl rfl dX8_at_34 ?_
          have J2 : cr_V Γ 43 [.ref 0, .int x1, .int x2, .int x3, .null] [.int (if x1 = 0 then (1 : Int32) else (0 : Int32))] J1 (cr_rf τ) 247 := by
            refine cs_i h 4 (by decide) rfl dX8_at_43 (fun v1 ev1 => ?_)
            have hyp := hyp v1 ev1
            show cr_V Γ 45 [.ref 0, .int x1, .int x2, .int x3, .int v1] [] J1 (cr_rf τ) 247
            refine cr_iload_n h (j := 3) rfl rfl dX8_at_45 ?_
            refine cs_sw h [80, 94, 117, 131, 143] (by decide) (by decide) (dt := 162) (by decide) (by decide) dX8_at_46 (fun c6 => ?_) (fun jc6 hjc6 c6 => ?_)
            · have hyp := hyp.1 c6
              refine cr_iload h rfl dX8_at_162 ?_
              refine cr_if_eq h (tgt := 172) (by decide) dX8_at_164 (fun c5 => ?_) (fun c5 => ?_)
              · have hyp := hyp.1 c5
                refine cr_aload_n h (j := 0) rfl rfl dX8_at_172 ?_
                refine cr_getR h (k := 2) cr_clsX8 (by decide) rfl rfl wf_X8_26 (by decide) rfl rfl dX8_at_173 ?_
                refine cr_getR h (k := 5) cr_clsX4 (by decide) rfl rfl wf_X8_188 (by decide) rfl rfl dX8_at_176 ?_
                refine cr_iload_n h (j := 2) rfl rfl dX8_at_179 ?_
                refine cs_ild h (by decide) rfl hyp.1 (q := x2.toNatClampNeg) rfl dX8_at_180 ?_
                have hyp := hyp.2
                refine cr_iret h rfl rfl rfl dX8_at_181 ?_
                exact hK _ _ hyp
              · have hyp := hyp.2 c5
                refine cr_bipush h (v := (99 : Int32)) (by decide) dX8_at_167 ?_
                refine cr_goto h (tgt := 181) (by decide) dX8_at_169 ?_
                refine cr_iret h rfl rfl rfl dX8_at_181 ?_
                exact hK _ _ hyp
            · rcases (show jc6 = 0 ∨ jc6 = 1 ∨ jc6 = 2 ∨ jc6 = 3 ∨ jc6 = 4 by have : jc6 < 5 := hjc6; omega) with rfl | rfl | rfl | rfl | rfl
              · have hyp := hyp.2.1 c6
                refine cr_aload_n h (j := 0) rfl rfl dX8_at_80 ?_
                refine cr_getR h (k := 2) cr_clsX8 (by decide) rfl rfl wf_X8_26 (by decide) rfl rfl dX8_at_81 ?_
                refine cr_getR h (k := 0) cr_clsX4 (by decide) rfl rfl wf_X8_172 (by decide) rfl rfl dX8_at_84 ?_
                refine cr_iload_n h (j := 1) rfl rfl dX8_at_87 ?_
                have hb1 := hyp.1
                have hyp := hyp.2
                refine cr_aald h (by decide) rfl hb1 ((kr_138 hb1).2.2 τ) dX8_at_88 ?_
                refine cr_iload_n h (j := 2) rfl rfl dX8_at_89 ?_
                refine cr_iconst h (v := (1 : Int32)) (by decide) dX8_at_90 ?_
                refine cr_iadd h dX8_at_91 ?_
                refine cs_ild h (kr_138 hb1).1 (kr_138 hb1).2.1 hyp.1 (q := (x2 + (1 : Int32)).toNatClampNeg) rfl dX8_at_92 ?_
                have hyp := hyp.2
                refine cr_iret h rfl rfl rfl dX8_at_93 ?_
                exact hK _ _ hyp
              · have hyp := hyp.2.2.1 c6
                refine cr_iload h rfl dX8_at_94 ?_
                refine cr_if_eq h (tgt := 103) (by decide) dX8_at_96 (fun c7 => ?_) (fun c7 => ?_)
                · have hyp := hyp.1 c7
                  refine cr_aload_n h (j := 0) rfl rfl dX8_at_103 ?_
                  refine cr_getR h (k := 2) cr_clsX8 (by decide) rfl rfl wf_X8_26 (by decide) rfl rfl dX8_at_104 ?_
                  refine cr_getR h (k := 1) cr_clsX4 (by decide) rfl rfl wf_X8_176 (by decide) rfl rfl dX8_at_107 ?_
                  refine cr_iload_n h (j := 1) rfl rfl dX8_at_110 ?_
                  have hb2 := hyp.1
                  have hyp := hyp.2
                  refine cr_aald h (by decide) rfl hb2 ((kr_145 hb2).2.2 τ) dX8_at_111 ?_
                  refine cr_iload_n h (j := 2) rfl rfl dX8_at_112 ?_
                  refine cr_iconst h (v := (1 : Int32)) (by decide) dX8_at_113 ?_
                  refine cr_iadd h dX8_at_114 ?_
                  refine cs_ild h (kr_145 hb2).1 (kr_145 hb2).2.1 hyp.1 (q := (x2 + (1 : Int32)).toNatClampNeg) rfl dX8_at_115 ?_
                  have hyp := hyp.2
                  refine cr_iret h rfl rfl rfl dX8_at_116 ?_
                  exact hK _ _ hyp
                · have hyp := hyp.2 c7
                  refine cr_iconst h (v := (-1 : Int32)) (by decide) dX8_at_99 ?_
                  refine cr_goto h (tgt := 116) (by decide) dX8_at_100 ?_
                  refine cr_iret h rfl rfl rfl dX8_at_116 ?_
                  exact hK _ _ hyp
              · have hyp := hyp.2.2.2.1 c6
                refine cr_aload_n h (j := 0) rfl rfl dX8_at_117 ?_
                refine cr_getR h (k := 2) cr_clsX8 (by decide) rfl rfl wf_X8_26 (by decide) rfl rfl dX8_at_118 ?_
                refine cr_getR h (k := 2) cr_clsX4 (by decide) rfl rfl wf_X8_179 (by decide) rfl rfl dX8_at_121 ?_
                refine cr_iload_n h (j := 1) rfl rfl dX8_at_124 ?_
                have hb3 := hyp.1
                have hyp := hyp.2
                refine cr_aald h (by decide) rfl hb3 ((kr_152 hb3).2.2 τ) dX8_at_125 ?_
                refine cr_iload_n h (j := 2) rfl rfl dX8_at_126 ?_
                refine cr_iconst h (v := (1 : Int32)) (by decide) dX8_at_127 ?_
                refine cr_iadd h dX8_at_128 ?_
                refine cs_ild h (kr_152 hb3).1 (kr_152 hb3).2.1 hyp.1 (q := (x2 + (1 : Int32)).toNatClampNeg) rfl dX8_at_129 ?_
                have hyp := hyp.2
                refine cr_iret h rfl rfl rfl dX8_at_130 ?_
                exact hK _ _ hyp
              · have hyp := hyp.2.2.2.2.1 c6
                refine cr_aload_n h (j := 0) rfl rfl dX8_at_131 ?_
                refine cr_getR h (k := 2) cr_clsX8 (by decide) rfl rfl wf_X8_26 (by decide) rfl rfl dX8_at_132 ?_
                refine cr_getR h (k := 3) cr_clsX4 (by decide) rfl rfl wf_X8_182 (by decide) rfl rfl dX8_at_135 ?_
                refine cr_iload_n h (j := 1) rfl rfl dX8_at_138 ?_
                have hb4 := hyp.1
                have hyp := hyp.2
                refine cr_aald h (by decide) rfl hb4 ((kr_159 hb4).2.2 τ) dX8_at_139 ?_
                refine cr_iload_n h (j := 2) rfl rfl dX8_at_140 ?_
                refine cs_ild h (kr_159 hb4).1 (kr_159 hb4).2.1 hyp.1 (q := x2.toNatClampNeg) rfl dX8_at_141 ?_
                have hyp := hyp.2
                refine cr_iret h rfl rfl rfl dX8_at_142 ?_
                exact hK _ _ hyp
              · have hyp := hyp.2.2.2.2.2 c6
                refine cr_iload h rfl dX8_at_143 ?_
                refine cr_if_eq h (tgt := 152) (by decide) dX8_at_145 (fun c8 => ?_) (fun c8 => ?_)
                · have hyp := hyp.1 c8
                  refine cr_aload_n h (j := 0) rfl rfl dX8_at_152 ?_
                  refine cr_getR h (k := 2) cr_clsX8 (by decide) rfl rfl wf_X8_26 (by decide) rfl rfl dX8_at_153 ?_
                  refine cr_getR h (k := 4) cr_clsX4 (by decide) rfl rfl wf_X8_185 (by decide) rfl rfl dX8_at_156 ?_
                  refine cr_iload_n h (j := 2) rfl rfl dX8_at_159 ?_
                  refine cs_ild h (by decide) rfl hyp.1 (q := x2.toNatClampNeg) rfl dX8_at_160 ?_
                  have hyp := hyp.2
                  refine cr_iret h rfl rfl rfl dX8_at_161 ?_
                  exact hK _ _ hyp
                · have hyp := hyp.2 c8
                  refine cr_iconst h (v := (0 : Int32)) (by decide) dX8_at_148 ?_
                  refine cr_goto h (tgt := 161) (by decide) dX8_at_149 ?_
                  refine cr_iret h rfl rfl rfl dX8_at_161 ?_
                  exact hK _ _ hyp
          refine cr_if_ne h (tgt := 42) (by decide) dX8_at_35 (fun c4 => ?_) (fun c4 => ?_)
          · refine cr_iconst h (v := (0 : Int32)) (by decide) dX8_at_42 ?_
            exact cr_ite (by rw [if_neg c4]) J2
          · refine cr_iconst h (v := (1 : Int32)) (by decide) dX8_at_38 ?_
            refine cr_goto h (tgt := 43) (by decide) dX8_at_39 ?_
            exact cr_ite (by rw [if_pos c4]) J2
        · have hyp := hyp.2 c3
          refine cr_ldc h wc_X8_168 dX8_at_27 ?_
          refine cr_iret h rfl rfl rfl dX8_at_29 ?_
          exact hK _ _ hyp
def t_yX8_touch (τ : Nat → Nat) (x1 : Int32) (I : cr_I) (Q : Int32 → cr_I → Prop) : Prop := ((f_yX8_isOutside τ x1 (0 : Int32) (1 : Int32) I) = 0 → (t_yX8_driveAsTold τ I (fun (J1 : cr_I) => (¬ x1 = 0 → Q (J1 137 7) J1) ∧ (x1 = 0 → Q (J1 137 6) J1)))) ∧ (¬ (f_yX8_isOutside τ x1 (0 : Int32) (1 : Int32) I) = 0 → Q (-3 : Int32) I)
abbrev T_yX8_touch : cr_T := fun vs I R K => ∃ (τ : Nat → Nat) (x1 : Int32) (Q : Int32 → cr_I → Prop), R = cr_rf τ ∧ cr_tau τ ∧ vs = [.ref 0, .int x1] ∧ t_yX8_touch τ x1 I Q ∧ ∀ r J, Q r J → K (some (.int r)) J (cr_rf τ)
theorem C_yX8_touch : cr_C yX8_touch cX8_touch 2 (some .int) (cr_rm0 6 144) 247 247 T_yX8_touch := by
  refine cr_C.of (by decide +kernel) (fun vs I R K hT => ?_) (fun Γ K h vs I R hT => ?_)
  · obtain ⟨τ, x1, Q, rfl, hτ, rfl, hyp, hK⟩ := hT
    exact Nat.le_of_ble_eq_true rfl
  · obtain ⟨τ, x1, Q, rfl, hτ, rfl, hyp, hK⟩ := hT
    unfold t_yX8_touch at hyp
    show cr_V Γ 0 [.ref 0, .int x1] [] I (cr_rf τ) 247
    refine cr_iload_n h (j := 1) rfl rfl dX8_touch_0 ?_
    refine cr_iconst h (v := (0 : Int32)) (by decide) dX8_touch_1 ?_
    refine cr_iconst h (v := (1 : Int32)) (by decide) dX8_touch_2 ?_
    refine cr_callS h C_yX8_isOutside cZ_yX8_isOutside wm_X8_55 ws_yX8_isOutside (cr_rmS (by decide) (by decide)) (As := [.int x1, .int (0 : Int32), .int (1 : Int32)]) rfl (Nat.le_of_ble_eq_true rfl) dX8_touch_3 ⟨τ, x1, (0 : Int32), (1 : Int32), rfl, hτ, rfl, ?_⟩
    show cr_V Γ 6 [.ref 0, .int x1] [.int (f_yX8_isOutside τ x1 (0 : Int32) (1 : Int32) I)] I (cr_rf τ) 247
    refine cr_if_eq h (tgt := 12) (by decide) dX8_touch_6 (fun c1 => ?_) (fun c1 => ?_)
    · have hyp := hyp.1 c1
      refine cr_aload_n h (j := 0) rfl rfl dX8_touch_12 ?_
      refine cr_callV h (c0 := 8) (T0 := TX8) C_yX8_driveAsTold cZ_yX8_driveAsTold wm_X8_169 wv_yX8_driveAsTold we_yX8_driveAsTold (by decide) rfl rfl (cr_rmS (by decide) (by decide)) (As := []) rfl (Nat.le_of_ble_eq_true rfl) dX8_touch_13 ⟨τ, _, rfl, hτ, rfl, hyp, fun J1 hyp => ?_⟩
      show cr_V Γ 16 [.ref 0, .int x1] [] J1 (cr_rf τ) 247
      refine cr_iload_n h (j := 1) rfl rfl dX8_touch_16 ?_
      refine cr_if_ne h (tgt := 30) (by decide) dX8_touch_17 (fun c2 => ?_) (fun c2 => ?_)
      · have hyp := hyp.1 c2
        refine cr_aload_n h (j := 0) rfl rfl dX8_touch_30 ?_
        refine cr_getR h (k := 2) cr_clsX8 (by decide) rfl rfl wf_X8_26 (by decide) rfl rfl dX8_touch_31 ?_
        refine cr_getI h (k := 7) cr_clsX4 (by decide) rfl rfl wf_X8_194 (by decide) rfl dX8_touch_34 ?_
        refine cr_iret h rfl rfl rfl dX8_touch_37 ?_
        exact hK _ _ hyp
      · have hyp := hyp.2 c2
        refine cr_aload_n h (j := 0) rfl rfl dX8_touch_20 ?_
        refine cr_getR h (k := 2) cr_clsX8 (by decide) rfl rfl wf_X8_26 (by decide) rfl rfl dX8_touch_21 ?_
        refine cr_getI h (k := 6) cr_clsX4 (by decide) rfl rfl wf_X8_191 (by decide) rfl dX8_touch_24 ?_
        refine cr_goto h (tgt := 37) (by decide) dX8_touch_27 ?_
        refine cr_iret h rfl rfl rfl dX8_touch_37 ?_
        exact hK _ _ hyp
    · have hyp := hyp.2 c1
      refine cr_bipush h (v := (-3 : Int32)) (by decide) dX8_touch_9 ?_
      refine cr_iret h rfl rfl rfl dX8_touch_11 ?_
      exact hK _ _ hyp
def t_yX8_least (τ : Nat → Nat) (x1 : Int32) (I : cr_I) (Q : Int32 → cr_I → Prop) : Prop := ((f_yX8_isNoFollower τ x1 I) = 0 → (t_yX8_driveAsTold τ I (fun (J1 : cr_I) => p_yX4_leastGap τ x1 J1 ∧ Q (f_yX4_leastGap τ x1 J1) J1))) ∧ (¬ (f_yX8_isNoFollower τ x1 I) = 0 → Q (-2147483648 : Int32) I)
abbrev T_yX8_least : cr_T := fun vs I R K => ∃ (τ : Nat → Nat) (x1 : Int32) (Q : Int32 → cr_I → Prop), R = cr_rf τ ∧ cr_tau τ ∧ vs = [.ref 0, .int x1] ∧ t_yX8_least τ x1 I Q ∧ ∀ r J, Q r J → K (some (.int r)) J (cr_rf τ)
theorem C_yX8_least : cr_C yX8_least cX8_least 2 (some .int) (cr_rm0 6 144) 247 247 T_yX8_least := by
  refine cr_C.of (by decide +kernel) (fun vs I R K hT => ?_) (fun Γ K h vs I R hT => ?_)
  · obtain ⟨τ, x1, Q, rfl, hτ, rfl, hyp, hK⟩ := hT
    exact Nat.le_of_ble_eq_true rfl
  · obtain ⟨τ, x1, Q, rfl, hτ, rfl, hyp, hK⟩ := hT
    unfold t_yX8_least at hyp
    show cr_V Γ 0 [.ref 0, .int x1] [] I (cr_rf τ) 247
    refine cr_aload_n h (j := 0) rfl rfl dX8_least_0 ?_
    refine cr_iload_n h (j := 1) rfl rfl dX8_least_1 ?_
    refine cr_callV h (c0 := 8) (T0 := TX8) C_yX8_isNoFollower cZ_yX8_isNoFollower wm_X8_150 wv_yX8_isNoFollower we_yX8_isNoFollower (by decide) rfl rfl (cr_rmS (by decide) (by decide)) (As := [.int x1]) rfl (Nat.le_of_ble_eq_true rfl) dX8_least_2 ⟨τ, x1, rfl, hτ, rfl, ?_⟩
    show cr_V Γ 5 [.ref 0, .int x1] [.int (f_yX8_isNoFollower τ x1 I)] I (cr_rf τ) 247
    refine cr_if_eq h (tgt := 11) (by decide) dX8_least_5 (fun c1 => ?_) (fun c1 => ?_)
    · have hyp := hyp.1 c1
      refine cr_aload_n h (j := 0) rfl rfl dX8_least_11 ?_
      refine cr_callV h (c0 := 8) (T0 := TX8) C_yX8_driveAsTold cZ_yX8_driveAsTold wm_X8_169 wv_yX8_driveAsTold we_yX8_driveAsTold (by decide) rfl rfl (cr_rmS (by decide) (by decide)) (As := []) rfl (Nat.le_of_ble_eq_true rfl) dX8_least_12 ⟨τ, _, rfl, hτ, rfl, hyp, fun J1 hyp => ?_⟩
      show cr_V Γ 15 [.ref 0, .int x1] [] J1 (cr_rf τ) 247
      refine cr_aload_n h (j := 0) rfl rfl dX8_least_15 ?_
      refine cr_getR h (k := 2) cr_clsX8 (by decide) rfl rfl wf_X8_26 (by decide) rfl rfl dX8_least_16 ?_
      refine cr_iload_n h (j := 1) rfl rfl dX8_least_19 ?_
      refine cr_callV h (c0 := 4) (T0 := TX4) C_yX4_leastGap cZ_yX4_leastGap wm_X8_197 wv_yX4_leastGap we_yX4_leastGap (by decide) rfl rfl (cr_rmS (by decide) (by decide)) (As := [.int x1]) rfl (Nat.le_of_ble_eq_true rfl) dX8_least_20 ⟨τ, x1, rfl, hτ, rfl, hyp.1, ?_⟩
      have hyp := hyp.2
      show cr_V Γ 23 [.ref 0, .int x1] [.int (f_yX4_leastGap τ x1 J1)] J1 (cr_rf τ) 247
      refine cr_iret h rfl rfl rfl dX8_least_23 ?_
      exact hK _ _ hyp
    · have hyp := hyp.2 c1
      refine cr_ldc h wc_X8_168 dX8_least_8 ?_
      refine cr_iret h rfl rfl rfl dX8_least_10 ?_
      exact hK _ _ hyp
def t_yX8_dip (τ : Nat → Nat) (x1 : Int32) (I : cr_I) (Q : Int32 → cr_I → Prop) : Prop := ((f_yX8_isNoLorry τ x1 I) = 0 → (t_yX8_driveAsTold τ I (fun (J1 : cr_I) => p_yX4_dipOf τ x1 J1 ∧ Q (f_yX4_dipOf τ x1 J1) J1))) ∧ (¬ (f_yX8_isNoLorry τ x1 I) = 0 → Q (-2 : Int32) I)
abbrev T_yX8_dip : cr_T := fun vs I R K => ∃ (τ : Nat → Nat) (x1 : Int32) (Q : Int32 → cr_I → Prop), R = cr_rf τ ∧ cr_tau τ ∧ vs = [.ref 0, .int x1] ∧ t_yX8_dip τ x1 I Q ∧ ∀ r J, Q r J → K (some (.int r)) J (cr_rf τ)
theorem C_yX8_dip : cr_C yX8_dip cX8_dip 2 (some .int) (cr_rm0 6 144) 247 247 T_yX8_dip := by
  refine cr_C.of (by decide +kernel) (fun vs I R K hT => ?_) (fun Γ K h vs I R hT => ?_)
  · obtain ⟨τ, x1, Q, rfl, hτ, rfl, hyp, hK⟩ := hT
    exact Nat.le_of_ble_eq_true rfl
  · obtain ⟨τ, x1, Q, rfl, hτ, rfl, hyp, hK⟩ := hT
    unfold t_yX8_dip at hyp
    show cr_V Γ 0 [.ref 0, .int x1] [] I (cr_rf τ) 247
    refine cr_aload_n h (j := 0) rfl rfl dX8_dip_0 ?_
    refine cr_iload_n h (j := 1) rfl rfl dX8_dip_1 ?_
    refine cr_callV h (c0 := 8) (T0 := TX8) C_yX8_isNoLorry cZ_yX8_isNoLorry wm_X8_165 wv_yX8_isNoLorry we_yX8_isNoLorry (by decide) rfl rfl (cr_rmS (by decide) (by decide)) (As := [.int x1]) rfl (Nat.le_of_ble_eq_true rfl) dX8_dip_2 ⟨τ, x1, rfl, hτ, rfl, ?_⟩
    show cr_V Γ 5 [.ref 0, .int x1] [.int (f_yX8_isNoLorry τ x1 I)] I (cr_rf τ) 247
    refine cr_if_eq h (tgt := 11) (by decide) dX8_dip_5 (fun c1 => ?_) (fun c1 => ?_)
    · have hyp := hyp.1 c1
      refine cr_aload_n h (j := 0) rfl rfl dX8_dip_11 ?_
      refine cr_callV h (c0 := 8) (T0 := TX8) C_yX8_driveAsTold cZ_yX8_driveAsTold wm_X8_169 wv_yX8_driveAsTold we_yX8_driveAsTold (by decide) rfl rfl (cr_rmS (by decide) (by decide)) (As := []) rfl (Nat.le_of_ble_eq_true rfl) dX8_dip_12 ⟨τ, _, rfl, hτ, rfl, hyp, fun J1 hyp => ?_⟩
      show cr_V Γ 15 [.ref 0, .int x1] [] J1 (cr_rf τ) 247
      refine cr_aload_n h (j := 0) rfl rfl dX8_dip_15 ?_
      refine cr_getR h (k := 2) cr_clsX8 (by decide) rfl rfl wf_X8_26 (by decide) rfl rfl dX8_dip_16 ?_
      refine cr_iload_n h (j := 1) rfl rfl dX8_dip_19 ?_
      refine cr_callV h (c0 := 4) (T0 := TX4) C_yX4_dipOf cZ_yX4_dipOf wm_X8_201 wv_yX4_dipOf we_yX4_dipOf (by decide) rfl rfl (cr_rmS (by decide) (by decide)) (As := [.int x1]) rfl (Nat.le_of_ble_eq_true rfl) dX8_dip_20 ⟨τ, x1, rfl, hτ, rfl, hyp.1, ?_⟩
      have hyp := hyp.2
      show cr_V Γ 23 [.ref 0, .int x1] [.int (f_yX4_dipOf τ x1 J1)] J1 (cr_rf τ) 247
      refine cr_iret h rfl rfl rfl dX8_dip_23 ?_
      exact hK _ _ hyp
    · have hyp := hyp.2 c1
      refine cr_bipush h (v := (-2 : Int32)) (by decide) dX8_dip_8 ?_
      refine cr_iret h rfl rfl rfl dX8_dip_10 ?_
      exact hK _ _ hyp
def t_yX8_safe (τ : Nat → Nat) (x1 : Int32) (x2 : Int32) (x3 : Int32) (I : cr_I) (Q : Int32 → cr_I → Prop) : Prop := (¬ (f_yX8_isOutside τ x1 (1 : Int32) (99 : Int32) I) = 0 → Q (-3 : Int32) I) ∧ ((f_yX8_isOutside τ x1 (1 : Int32) (99 : Int32) I) = 0 → (((f_yX8_areNoChances τ x2 x3 I) = 0 → (p_yX4_firstTouching τ x1 x2 x3 I ∧ (∀ (r1 : Int32) (J1 : cr_I), q_yX4_firstTouching τ x1 x2 x3 I r1 J1 → ((¬ r1 = (-1 : Int32) → Q (0 : Int32) J1) ∧ (r1 = (-1 : Int32) → Q (1 : Int32) J1))))) ∧ (¬ (f_yX8_areNoChances τ x2 x3 I) = 0 → Q (-3 : Int32) I)))
abbrev T_yX8_safe : cr_T := fun vs I R K => ∃ (τ : Nat → Nat) (x1 : Int32) (x2 : Int32) (x3 : Int32) (Q : Int32 → cr_I → Prop), R = cr_rf τ ∧ cr_tau τ ∧ vs = [.ref 0, .int x1, .int x2, .int x3] ∧ t_yX8_safe τ x1 x2 x3 I Q ∧ ∀ r J, Q r J → K (some (.int r)) J (cr_rf τ)
theorem C_yX8_safe : cr_C yX8_safe cX8_safe 4 (some .int) (cr_rm0 6 150) 247 247 T_yX8_safe := by
  refine cr_C.of (by decide +kernel) (fun vs I R K hT => ?_) (fun Γ K h vs I R hT => ?_)
  · obtain ⟨τ, x1, x2, x3, Q, rfl, hτ, rfl, hyp, hK⟩ := hT
    exact Nat.le_of_ble_eq_true rfl
  · obtain ⟨τ, x1, x2, x3, Q, rfl, hτ, rfl, hyp, hK⟩ := hT
    unfold t_yX8_safe at hyp
    show cr_V Γ 0 [.ref 0, .int x1, .int x2, .int x3] [] I (cr_rf τ) 247
    refine cr_iload_n h (j := 1) rfl rfl dX8_safe_0 ?_
    refine cr_iconst h (v := (1 : Int32)) (by decide) dX8_safe_1 ?_
    refine cr_bipush h (v := (99 : Int32)) (by decide) dX8_safe_2 ?_
    refine cr_callS h C_yX8_isOutside cZ_yX8_isOutside wm_X8_55 ws_yX8_isOutside (cr_rmS (by decide) (by decide)) (As := [.int x1, .int (1 : Int32), .int (99 : Int32)]) rfl (Nat.le_of_ble_eq_true rfl) dX8_safe_4 ⟨τ, x1, (1 : Int32), (99 : Int32), rfl, hτ, rfl, ?_⟩
    show cr_V Γ 7 [.ref 0, .int x1, .int x2, .int x3] [.int (f_yX8_isOutside τ x1 (1 : Int32) (99 : Int32) I)] I (cr_rf τ) 247
    refine cr_if_ne h (tgt := 18) (by decide) dX8_safe_7 (fun c1 => ?_) (fun c1 => ?_)
    · have hyp := hyp.1 c1
      refine cr_bipush h (v := (-3 : Int32)) (by decide) dX8_safe_18 ?_
      refine cr_iret h rfl rfl rfl dX8_safe_20 ?_
      exact hK _ _ hyp
    · have hyp := hyp.2 c1
      refine cr_iload_n h (j := 2) rfl rfl dX8_safe_10 ?_
      refine cr_iload_n h (j := 3) rfl rfl dX8_safe_11 ?_
      refine cr_callS h C_yX8_areNoChances cZ_yX8_areNoChances wm_X8_204 ws_yX8_areNoChances (cr_rmS (by decide) (by decide)) (As := [.int x2, .int x3]) rfl (Nat.le_of_ble_eq_true rfl) dX8_safe_12 ⟨τ, x2, x3, rfl, hτ, rfl, ?_⟩
      show cr_V Γ 15 [.ref 0, .int x1, .int x2, .int x3] [.int (f_yX8_areNoChances τ x2 x3 I)] I (cr_rf τ) 247
      refine cr_if_eq h (tgt := 21) (by decide) dX8_safe_15 (fun c2 => ?_) (fun c2 => ?_)
      · have hyp := hyp.1 c2
        refine cr_aload_n h (j := 0) rfl rfl dX8_safe_21 ?_
        refine cr_getR h (k := 2) cr_clsX8 (by decide) rfl rfl wf_X8_26 (by decide) rfl rfl dX8_safe_22 ?_
        refine cr_aload_n h (j := 0) rfl rfl dX8_safe_25 ?_
        refine cr_getR h (k := 1) cr_clsX8 (by decide) rfl rfl wf_X8_19 (by decide) rfl rfl dX8_safe_26 ?_
        refine cr_iload_n h (j := 1) rfl rfl dX8_safe_29 ?_
        refine cr_iload_n h (j := 2) rfl rfl dX8_safe_30 ?_
        refine cr_iload_n h (j := 3) rfl rfl dX8_safe_31 ?_
        refine cr_callV h (c0 := 4) (T0 := TX4) C_yX4_firstTouching cZ_yX4_firstTouching wm_X8_207 wv_yX4_firstTouching we_yX4_firstTouching (by decide) rfl rfl (cr_rmS (by decide) (by decide)) (As := [.ref 27, .int x1, .int x2, .int x3]) rfl (Nat.le_of_ble_eq_true rfl) dX8_safe_32 ⟨τ, x1, x2, x3, rfl, hτ, rfl, hyp.1, fun r1 J1 q1 => ?_⟩
        have hyp := hyp.2 r1 J1 q1
        show cr_V Γ 35 [.ref 0, .int x1, .int x2, .int x3] [.int r1] J1 (cr_rf τ) 247
        refine cr_iconst h (v := (-1 : Int32)) (by decide) dX8_safe_35 ?_
        refine cr_icmp_ne h (tgt := 43) (by decide) dX8_safe_36 (fun c3 => ?_) (fun c3 => ?_)
        · have hyp := hyp.1 c3
          refine cr_iconst h (v := (0 : Int32)) (by decide) dX8_safe_43 ?_
          refine cr_iret h rfl rfl rfl dX8_safe_44 ?_
          exact hK _ _ hyp
        · have hyp := hyp.2 c3
          refine cr_iconst h (v := (1 : Int32)) (by decide) dX8_safe_39 ?_
          refine cr_goto h (tgt := 44) (by decide) dX8_safe_40 ?_
          refine cr_iret h rfl rfl rfl dX8_safe_44 ?_
          exact hK _ _ hyp
      · have hyp := hyp.2 c2
        refine cr_bipush h (v := (-3 : Int32)) (by decide) dX8_safe_18 ?_
        refine cr_iret h rfl rfl rfl dX8_safe_20 ?_
        exact hK _ _ hyp
def t_yX8_worst (τ : Nat → Nat) (x1 : Int32) (x2 : Int32) (x3 : Int32) (I : cr_I) (Q : Int32 → cr_I → Prop) : Prop := (¬ (f_yX8_isOutside τ x1 (1 : Int32) (99 : Int32) I) = 0 → Q (-3 : Int32) I) ∧ ((f_yX8_isOutside τ x1 (1 : Int32) (99 : Int32) I) = 0 → (((f_yX8_areNoChances τ x2 x3 I) = 0 → (p_yX4_firstTouching τ x1 x2 x3 I ∧ (∀ (r1 : Int32) (J1 : cr_I), q_yX4_firstTouching τ x1 x2 x3 I r1 J1 → Q r1 J1))) ∧ (¬ (f_yX8_areNoChances τ x2 x3 I) = 0 → Q (-3 : Int32) I)))
abbrev T_yX8_worst : cr_T := fun vs I R K => ∃ (τ : Nat → Nat) (x1 : Int32) (x2 : Int32) (x3 : Int32) (Q : Int32 → cr_I → Prop), R = cr_rf τ ∧ cr_tau τ ∧ vs = [.ref 0, .int x1, .int x2, .int x3] ∧ t_yX8_worst τ x1 x2 x3 I Q ∧ ∀ r J, Q r J → K (some (.int r)) J (cr_rf τ)
theorem C_yX8_worst : cr_C yX8_worst cX8_worst 4 (some .int) (cr_rm0 6 150) 247 247 T_yX8_worst := by
  refine cr_C.of (by decide +kernel) (fun vs I R K hT => ?_) (fun Γ K h vs I R hT => ?_)
  · obtain ⟨τ, x1, x2, x3, Q, rfl, hτ, rfl, hyp, hK⟩ := hT
    exact Nat.le_of_ble_eq_true rfl
  · obtain ⟨τ, x1, x2, x3, Q, rfl, hτ, rfl, hyp, hK⟩ := hT
    unfold t_yX8_worst at hyp
    show cr_V Γ 0 [.ref 0, .int x1, .int x2, .int x3] [] I (cr_rf τ) 247
    refine cr_iload_n h (j := 1) rfl rfl dX8_worst_0 ?_
    refine cr_iconst h (v := (1 : Int32)) (by decide) dX8_worst_1 ?_
    refine cr_bipush h (v := (99 : Int32)) (by decide) dX8_worst_2 ?_
    refine cr_callS h C_yX8_isOutside cZ_yX8_isOutside wm_X8_55 ws_yX8_isOutside (cr_rmS (by decide) (by decide)) (As := [.int x1, .int (1 : Int32), .int (99 : Int32)]) rfl (Nat.le_of_ble_eq_true rfl) dX8_worst_4 ⟨τ, x1, (1 : Int32), (99 : Int32), rfl, hτ, rfl, ?_⟩
    show cr_V Γ 7 [.ref 0, .int x1, .int x2, .int x3] [.int (f_yX8_isOutside τ x1 (1 : Int32) (99 : Int32) I)] I (cr_rf τ) 247
    refine cr_if_ne h (tgt := 18) (by decide) dX8_worst_7 (fun c1 => ?_) (fun c1 => ?_)
    · have hyp := hyp.1 c1
      refine cr_bipush h (v := (-3 : Int32)) (by decide) dX8_worst_18 ?_
      refine cr_iret h rfl rfl rfl dX8_worst_20 ?_
      exact hK _ _ hyp
    · have hyp := hyp.2 c1
      refine cr_iload_n h (j := 2) rfl rfl dX8_worst_10 ?_
      refine cr_iload_n h (j := 3) rfl rfl dX8_worst_11 ?_
      refine cr_callS h C_yX8_areNoChances cZ_yX8_areNoChances wm_X8_204 ws_yX8_areNoChances (cr_rmS (by decide) (by decide)) (As := [.int x2, .int x3]) rfl (Nat.le_of_ble_eq_true rfl) dX8_worst_12 ⟨τ, x2, x3, rfl, hτ, rfl, ?_⟩
      show cr_V Γ 15 [.ref 0, .int x1, .int x2, .int x3] [.int (f_yX8_areNoChances τ x2 x3 I)] I (cr_rf τ) 247
      refine cr_if_eq h (tgt := 21) (by decide) dX8_worst_15 (fun c2 => ?_) (fun c2 => ?_)
      · have hyp := hyp.1 c2
        refine cr_aload_n h (j := 0) rfl rfl dX8_worst_21 ?_
        refine cr_getR h (k := 2) cr_clsX8 (by decide) rfl rfl wf_X8_26 (by decide) rfl rfl dX8_worst_22 ?_
        refine cr_aload_n h (j := 0) rfl rfl dX8_worst_25 ?_
        refine cr_getR h (k := 1) cr_clsX8 (by decide) rfl rfl wf_X8_19 (by decide) rfl rfl dX8_worst_26 ?_
        refine cr_iload_n h (j := 1) rfl rfl dX8_worst_29 ?_
        refine cr_iload_n h (j := 2) rfl rfl dX8_worst_30 ?_
        refine cr_iload_n h (j := 3) rfl rfl dX8_worst_31 ?_
        refine cr_callV h (c0 := 4) (T0 := TX4) C_yX4_firstTouching cZ_yX4_firstTouching wm_X8_207 wv_yX4_firstTouching we_yX4_firstTouching (by decide) rfl rfl (cr_rmS (by decide) (by decide)) (As := [.ref 27, .int x1, .int x2, .int x3]) rfl (Nat.le_of_ble_eq_true rfl) dX8_worst_32 ⟨τ, x1, x2, x3, rfl, hτ, rfl, hyp.1, fun r1 J1 q1 => ?_⟩
        have hyp := hyp.2 r1 J1 q1
        show cr_V Γ 35 [.ref 0, .int x1, .int x2, .int x3] [.int r1] J1 (cr_rf τ) 247
        refine cr_iret h rfl rfl rfl dX8_worst_35 ?_
        exact hK _ _ hyp
      · have hyp := hyp.2 c2
        refine cr_bipush h (v := (-3 : Int32)) (by decide) dX8_worst_18 ?_
        refine cr_iret h rfl rfl rfl dX8_worst_20 ?_
        exact hK _ _ hyp
/-- as told -/
def cr_ctld (τ : Nat → Nat) (I : cr_I) : Prop := cr_rok τ I ∧ (0 ≤ (I 130 2).toInt ∧ (I 130 2).toInt ≤ 4)
theorem cw_told {τ : Nat → Nat} {I : cr_I} {Q : cr_I → Prop} (h : cr_ctld τ I) (hQ : ∀ J, cr_fr 137 168 I J → cr_cv (cr_cpar τ I) (I 130 0) (cr_dl (I 130 2)) (I 27 4) 32 J → Q J) : t_yX8_driveAsTold τ I Q := ⟨h, fun J hJ => hQ J hJ.1 hJ.2⟩
def cr_dpS (p : cr_par) (g : Int32) (dl : Nat) (lost : Int32) (i : Nat) : Int32 := ps0 p - cr_minF (ps0 p) (fun k => rS (cr_rs p g dl lost (k + 1)) i) 32
theorem cr_minF_c {v : Int32} {a b : Nat → Int32} : ∀ n, (∀ k, k < n → a k = b k) → cr_minF v a n = cr_minF v b n
  | 0, _ => rfl
  | n + 1, h => by rw [cr_minF, cr_minF, cr_minF_c n (fun k hk => h k (by omega)), h n (by omega)]
theorem cr_cv.dip {τ : Nat → Nat} {p : cr_par} {g : Int32} {dl : Nat} {lost : Int32} {J : cr_I} {i : Nat} (h : cr_cv p g dl lost 32 J) (hi : i < pn p) (hi6 : i < 6) : p_yX4_dipOf τ (nI i) J ∧ f_yX4_dipOf τ (nI i) J = cr_dpS p g dl lost i := by
  refine ⟨cr_ix (by omega) (by omega), ?_⟩
  unfold f_yX4_dipOf cr_dpS
  rw [cr_nc (by omega), (h.1 i 0 hi (by omega)).1]
  rw [cr_minF_c 32 (fun k hk => (h.1 i (k + 1) hi (by omega)).1)]
  rfl
def cr_grS (d : Nat → Int32) : Nat → Int32
  | 0 => 0
  | m + 1 => if d (m + 1) ≤ d m then cr_grS d m else cr_grS d m ||| ((1 : Int32) <<< (nI (m + 1) &&& 31))
def p_yX8_grows (τ : Nat → Nat) (I : cr_I) : Prop := cr_ctld τ I
def q_yX8_grows (τ : Nat → Nat) (I : cr_I) (r : Int32) (J : cr_I) : Prop := cr_fr 137 168 I J ∧ r = cr_grS (cr_dpS (cr_cpar τ I) (I 130 0) (cr_dl (I 130 2)) (I 27 4)) (cr_cn0 I - 1)
theorem bk_yX8_grows_0 {Γ : cr_G} {K : cr_K} {τ : Nat → Nat} {I : cr_I}  (hτ : cr_tau τ)  (h : cr_Ok yX8_grows cX8_grows 3 (some .int) (cr_rm0 6 144) K 247 247 Γ) (hyp : t_yX8_driveAsTold τ I (fun (J1 : cr_I) => cr_V Γ 8 [.ref 0, .int (0 : Int32), .int (1 : Int32)] [] J1 (cr_rf τ) 247)) : cr_V Γ 0 [.ref 0, .null, .null] [] I (cr_rf τ) 247 := by
  refine cr_aload_n h (j := 0) rfl rfl dX8_grows_0 ?_
  refine cr_callV h (c0 := 8) (T0 := TX8) C_yX8_driveAsTold cZ_yX8_driveAsTold wm_X8_169 wv_yX8_driveAsTold we_yX8_driveAsTold (by decide) rfl rfl (cr_rmS (by decide) (by decide)) (As := []) rfl (Nat.le_of_ble_eq_true rfl) dX8_grows_1 ⟨τ, _, rfl, hτ, rfl, hyp, fun J1 hyp => ?_⟩
  show cr_V Γ 4 [.ref 0, .null, .null] [] J1 (cr_rf τ) 247
  refine cr_iconst h (v := (0 : Int32)) (by decide) dX8_grows_4 ?_
  refine cr_istore_n h (j := 1) rfl (by decide) rfl dX8_grows_5 ?_
  show cr_V Γ 6 [.ref 0, .int (0 : Int32), .null] [] J1 (cr_rf τ) 247
  refine cr_iconst h (v := (1 : Int32)) (by decide) dX8_grows_6 ?_
  refine cr_istore_n h (j := 2) rfl (by decide) rfl dX8_grows_7 ?_
  show cr_V Γ 8 [.ref 0, .int (0 : Int32), .int (1 : Int32)] [] J1 (cr_rf τ) 247
  exact cr_weak [true, true, true] hyp
theorem bk_yX8_grows_8 {Γ : cr_G} {K : cr_K} {τ : Nat → Nat} {I : cr_I} {x1 : Int32} {x2 : Int32} (hτ : cr_tau τ)  (h : cr_Ok yX8_grows cX8_grows 3 (some .int) (cr_rm0 6 144) K 247 247 Γ) (hyp : ((I 27 1) ≤ x2 → K (some (.int x1)) I (cr_rf τ)) ∧ (¬ (I 27 1) ≤ x2 → (p_yX4_dipOf τ x2 I ∧ p_yX4_dipOf τ (x2 - (1 : Int32)) I ∧ ((f_yX4_dipOf τ x2 I) ≤ (f_yX4_dipOf τ (x2 - (1 : Int32)) I) → (∀ v1 : Int32, v1 = x2 + (1 : Int32) → cr_V Γ 8 [.ref 0, .int x1, .int v1] [] I (cr_rf τ) 247)) ∧ (¬ (f_yX4_dipOf τ x2 I) ≤ (f_yX4_dipOf τ (x2 - (1 : Int32)) I) → (∀ v2 : Int32, v2 = (x1 ||| ((1 : Int32) <<< (x2 &&& 31))) → (∀ v3 : Int32, v3 = x2 + (1 : Int32) → cr_V Γ 8 [.ref 0, .int v2, .int v3] [] I (cr_rf τ) 247)))))) : cr_V Γ 8 [.ref 0, .int x1, .int x2] [] I (cr_rf τ) 247 := by
  refine cr_iload_n h (j := 2) rfl rfl dX8_grows_8 ?_
  refine cr_aload_n h (j := 0) rfl rfl dX8_grows_9 ?_
  refine cr_getR h (k := 1) cr_clsX8 (by decide) rfl rfl wf_X8_19 (by decide) rfl rfl dX8_grows_10 ?_
  refine cr_getI h (k := 1) cr_clsX3 (by decide) rfl rfl wf_X8_103 (by decide) rfl dX8_grows_13 ?_
  refine cr_icmp_ge h (tgt := 52) (by decide) dX8_grows_16 (fun c1 => ?_) (fun c1 => ?_)
  · have hyp := hyp.1 c1
    refine cr_iload_n h (j := 1) rfl rfl dX8_grows_52 ?_
    refine cr_iret h rfl rfl rfl dX8_grows_53 ?_
    exact hyp
  · have hyp := hyp.2 c1
    refine cr_aload_n h (j := 0) rfl rfl dX8_grows_19 ?_
    refine cr_getR h (k := 2) cr_clsX8 (by decide) rfl rfl wf_X8_26 (by decide) rfl rfl dX8_grows_20 ?_
    refine cr_iload_n h (j := 2) rfl rfl dX8_grows_23 ?_
    refine cr_callV h (c0 := 4) (T0 := TX4) C_yX4_dipOf cZ_yX4_dipOf wm_X8_201 wv_yX4_dipOf we_yX4_dipOf (by decide) rfl rfl (cr_rmS (by decide) (by decide)) (As := [.int x2]) rfl (Nat.le_of_ble_eq_true rfl) dX8_grows_24 ⟨τ, x2, rfl, hτ, rfl, hyp.1, ?_⟩
    have hyp := hyp.2
    show cr_V Γ 27 [.ref 0, .int x1, .int x2] [.int (f_yX4_dipOf τ x2 I)] I (cr_rf τ) 247
    refine cr_aload_n h (j := 0) rfl rfl dX8_grows_27 ?_
    refine cr_getR h (k := 2) cr_clsX8 (by decide) rfl rfl wf_X8_26 (by decide) rfl rfl dX8_grows_28 ?_
    refine cr_iload_n h (j := 2) rfl rfl dX8_grows_31 ?_
    refine cr_iconst h (v := (1 : Int32)) (by decide) dX8_grows_32 ?_
    refine cr_isub h dX8_grows_33 ?_
    refine cr_callV h (c0 := 4) (T0 := TX4) C_yX4_dipOf cZ_yX4_dipOf wm_X8_201 wv_yX4_dipOf we_yX4_dipOf (by decide) rfl rfl (cr_rmS (by decide) (by decide)) (As := [.int (x2 - (1 : Int32))]) rfl (Nat.le_of_ble_eq_true rfl) dX8_grows_34 ⟨τ, (x2 - (1 : Int32)), rfl, hτ, rfl, hyp.1, ?_⟩
    have hyp := hyp.2
    show cr_V Γ 37 [.ref 0, .int x1, .int x2] [.int (f_yX4_dipOf τ (x2 - (1 : Int32)) I), .int (f_yX4_dipOf τ x2 I)] I (cr_rf τ) 247
    refine cr_icmp_le h (tgt := 46) (by decide) dX8_grows_37 (fun c2 => ?_) (fun c2 => ?_)
    · have hyp := hyp.1 c2
      refine cs_inc h (v := (1 : Int32)) 2 rfl (by decide) (by decide) rfl dX8_grows_46 (fun v1 ev1 => ?_)
      have hyp := hyp v1 ev1
      show cr_V Γ 49 [.ref 0, .int x1, .int v1] [] I (cr_rf τ) 247
      refine cr_goto h (tgt := 8) (by decide) dX8_grows_49 ?_
      exact cr_weak [true, true, true] hyp
    · have hyp := hyp.2 c2
      refine cr_iload_n h (j := 1) rfl rfl dX8_grows_40 ?_
      refine cr_iconst h (v := (1 : Int32)) (by decide) dX8_grows_41 ?_
      refine cr_iload_n h (j := 2) rfl rfl dX8_grows_42 ?_
      refine cr_ishl h dX8_grows_43 ?_
      refine cr_ior h dX8_grows_44 ?_
      refine cs_i_n h 1 rfl (by decide) rfl dX8_grows_45 (fun v2 ev2 => ?_)
      have hyp := hyp v2 ev2
      show cr_V Γ 46 [.ref 0, .int v2, .int x2] [] I (cr_rf τ) 247
      refine cs_inc h (v := (1 : Int32)) 2 rfl (by decide) (by decide) rfl dX8_grows_46 (fun v3 ev3 => ?_)
      have hyp := hyp v3 ev3
      show cr_V Γ 49 [.ref 0, .int v2, .int v3] [] I (cr_rf τ) 247
      refine cr_goto h (tgt := 8) (by decide) dX8_grows_49 ?_
      exact cr_weak [true, true, true] hyp
abbrev T_yX8_grows : cr_T := fun vs I R K => ∃ (τ : Nat → Nat), R = cr_rf τ ∧ cr_tau τ ∧ vs = [.ref 0] ∧ p_yX8_grows τ I ∧ ∀ (r : Int32) J, q_yX8_grows τ I r J → K (some (.int r)) J (cr_rf τ)
abbrev S_yX8_grows : Prop := cr_C yX8_grows cX8_grows 3 (some .int) (cr_rm0 6 144) 247 247 T_yX8_grows
theorem G_yX8_grows (H : ∀ (Γ : cr_G) (K : cr_K) (τ : Nat → Nat) (I : cr_I), cr_tau τ → cr_Ok yX8_grows cX8_grows 3 (some .int) (cr_rm0 6 144) K 247 247 Γ → p_yX8_grows τ I → (∀ (r : Int32) J, q_yX8_grows τ I r J → K (some (.int r)) J (cr_rf τ)) → cr_V Γ 0 [.ref 0, .null, .null] [] I (cr_rf τ) 247) : cr_C yX8_grows cX8_grows 3 (some .int) (cr_rm0 6 144) 247 247 T_yX8_grows := by
  refine cr_C.of (by decide +kernel) (fun vs I R K hT => ?_) (fun Γ K h vs I R hT => ?_)
  · obtain ⟨τ, rfl, hτ, rfl, hp, hK⟩ := hT
    exact Nat.le_of_ble_eq_true rfl
  · obtain ⟨τ, rfl, hτ, rfl, hp, hK⟩ := hT
    exact H Γ K τ I hτ h hp hK
theorem C_yX8_grows : S_yX8_grows := G_yX8_grows (by
  intro Γ K τ I hτ h hp hK
  obtain ⟨eN, h1, h6⟩ := hp.1.1.un
  unfold q_yX8_grows at hK
  refine bk_yX8_grows_0 hτ h (cw_told hp fun J hf hc => ?_)
  have hpn : pn (cr_cpar τ I) = cr_cn0 I := rfl
  generalize cr_cpar τ I = pp at *
  generalize cr_cn0 I = n at *
  have eJ : J 27 1 = nI n := by rw [hf 27 1 (by omega)]; exact eN
  refine cr_loop (fun m => cr_V Γ 8 [.ref 0, .int (cr_grS (cr_dpS pp (I 130 0) (cr_dl (I 130 2)) (I 27 4)) m), .int (nI (m + 1))] [] J (cr_rf τ) 247) (n - 1) ?_ ?_ 0 (Nat.zero_le _)
  · refine bk_yX8_grows_8 hτ h ⟨fun _ => hK _ _ ⟨hf, rfl⟩, fun z => absurd ?_ z⟩
    rw [eJ, show n - 1 + 1 = n by omega]; exact Int32.le_refl _
  · intro m hm ih
    have d1 := hc.dip (τ := τ) (i := m + 1) (by omega) (by omega)
    have d0 := hc.dip (τ := τ) (i := m) (by omega) (by omega)
    refine bk_yX8_grows_8 hτ h ⟨fun z => absurd z ?_, fun _ => ?_⟩
    · rw [eJ]; exact cr_nle (by omega) (by omega)
    · rw [nI_pred]
      refine ⟨d1.1, d0.1, ?_⟩
      rw [d1.2, d0.2]
      refine ⟨fun c => ?_, fun c => ?_⟩
      · rintro v rfl
        rw [nI_1]
        simpa only [cr_grS, if_pos c] using ih
      · rintro v rfl w rfl
        rw [nI_1]
        simpa only [cr_grS, if_neg c] using ih)
def cr_brS (w : Nat → Int32) : Nat → Int32
  | 0 => 0
  | t + 1 => if cr_brS w t < w t then w t else cr_brS w t
def p_yX8_bears (τ : Nat → Nat) (x1 x2 : Int32) (I : cr_I) : Prop := cr_ctld τ I
def cr_wgR (p : cr_par) (g : Int32) (dl : Nat) (lost : Int32) (wt : Nat → Int32) (fr to : Int32) (t : Nat) : Int32 := cr_wgS (fun i => rP (cr_rs p g dl lost (t + 1)) i) wt fr to (pn p)
def q_yX8_bears (τ : Nat → Nat) (x1 x2 : Int32) (I : cr_I) (r : Int32) (J : cr_I) : Prop := (¬ (f_yX8_areNoPlaces τ x1 x2 I = 0) ∧ r = -3 ∧ J = I) ∨ (f_yX8_areNoPlaces τ x1 x2 I = 0 ∧ cr_fr 137 168 I J ∧ r = cr_brS (cr_wgR (cr_cpar τ I) (I 130 0) (cr_dl (I 130 2)) (I 27 4) (fun i => I (29 + 25 * cr_cmk I i) 0) x1 x2) 32)
theorem cr_wgS_c {pl pl' wt wt' : Nat → Int32} {fr to : Int32} : ∀ n, (∀ i, i < n → pl i = pl' i ∧ wt i = wt' i) → cr_wgS pl wt fr to n = cr_wgS pl' wt' fr to n
  | 0, _ => rfl
  | n + 1, h => by rw [cr_wgS, cr_wgS, cr_wgS_c n (fun i hi => h i (by omega)), (h n (by omega)).1, (h n (by omega)).2]
theorem bk_yX8_bears_0 {Γ : cr_G} {K : cr_K} {τ : Nat → Nat} {I : cr_I} {x1 : Int32} {x2 : Int32} (hτ : cr_tau τ)  (h : cr_Ok yX8_bears cX8_bears 5 (some .int) (cr_rm0 6 144) K 247 247 Γ) (hyp : ((f_yX8_areNoPlaces τ x1 x2 I) = 0 → (t_yX8_driveAsTold τ I (fun (J1 : cr_I) => cr_V Γ 20 [.ref 0, .int x1, .int x2, .int (0 : Int32), .int (0 : Int32)] [] J1 (cr_rf τ) 247))) ∧ (¬ (f_yX8_areNoPlaces τ x1 x2 I) = 0 → K (some (.int (-3 : Int32))) I (cr_rf τ))) : cr_V Γ 0 [.ref 0, .int x1, .int x2, .null, .null] [] I (cr_rf τ) 247 := by
  refine cr_iload_n h (j := 1) rfl rfl dX8_bears_0 ?_
  refine cr_iload_n h (j := 2) rfl rfl dX8_bears_1 ?_
  refine cr_callS h C_yX8_areNoPlaces cZ_yX8_areNoPlaces wm_X8_131 ws_yX8_areNoPlaces (cr_rmS (by decide) (by decide)) (As := [.int x1, .int x2]) rfl (Nat.le_of_ble_eq_true rfl) dX8_bears_2 ⟨τ, x1, x2, rfl, hτ, rfl, ?_⟩
  show cr_V Γ 5 [.ref 0, .int x1, .int x2, .null, .null] [.int (f_yX8_areNoPlaces τ x1 x2 I)] I (cr_rf τ) 247
  refine cr_if_eq h (tgt := 11) (by decide) dX8_bears_5 (fun c1 => ?_) (fun c1 => ?_)
  · have hyp := hyp.1 c1
    refine cr_aload_n h (j := 0) rfl rfl dX8_bears_11 ?_
    refine cr_callV h (c0 := 8) (T0 := TX8) C_yX8_driveAsTold cZ_yX8_driveAsTold wm_X8_169 wv_yX8_driveAsTold we_yX8_driveAsTold (by decide) rfl rfl (cr_rmS (by decide) (by decide)) (As := []) rfl (Nat.le_of_ble_eq_true rfl) dX8_bears_12 ⟨τ, _, rfl, hτ, rfl, hyp, fun J1 hyp => ?_⟩
    show cr_V Γ 15 [.ref 0, .int x1, .int x2, .null, .null] [] J1 (cr_rf τ) 247
    refine cr_iconst h (v := (0 : Int32)) (by decide) dX8_bears_15 ?_
    refine cr_istore_n h (j := 3) rfl (by decide) rfl dX8_bears_16 ?_
    show cr_V Γ 17 [.ref 0, .int x1, .int x2, .int (0 : Int32), .null] [] J1 (cr_rf τ) 247
    refine cr_iconst h (v := (0 : Int32)) (by decide) dX8_bears_17 ?_
    refine cr_istore h (by decide) rfl dX8_bears_18 ?_
    show cr_V Γ 20 [.ref 0, .int x1, .int x2, .int (0 : Int32), .int (0 : Int32)] [] J1 (cr_rf τ) 247
    exact cr_weak [true, true, true, true, true] hyp
  · have hyp := hyp.2 c1
    refine cr_bipush h (v := (-3 : Int32)) (by decide) dX8_bears_8 ?_
    refine cr_iret h rfl rfl rfl dX8_bears_10 ?_
    exact hyp
theorem bk_yX8_bears_20 {Γ : cr_G} {K : cr_K} {τ : Nat → Nat} {I : cr_I} {x1 : Int32} {x2 : Int32} {x3 : Int32} {x4 : Int32} (hτ : cr_tau τ)  (h : cr_Ok yX8_bears cX8_bears 5 (some .int) (cr_rm0 6 144) K 247 247 Γ) (hyp : ((32 : Int32) ≤ x4 → K (some (.int x3)) I (cr_rf τ)) ∧ (¬ (32 : Int32) ≤ x4 → (p_yX4_weightBetween τ x1 x2 x4 I ∧ (∀ v1 : Int32, v1 = (f_yJ9_max_7cf53 τ x3 (f_yX4_weightBetween τ x1 x2 x4 I) I) → (∀ v2 : Int32, v2 = x4 + (1 : Int32) → cr_V Γ 20 [.ref 0, .int x1, .int x2, .int v1, .int v2] [] I (cr_rf τ) 247))))) : cr_V Γ 20 [.ref 0, .int x1, .int x2, .int x3, .int x4] [] I (cr_rf τ) 247 := by
  refine cr_iload h rfl dX8_bears_20 ?_
  refine cr_bipush h (v := (32 : Int32)) (by decide) dX8_bears_22 ?_
  refine cr_icmp_ge h (tgt := 53) (by decide) dX8_bears_24 (fun c2 => ?_) (fun c2 => ?_)
  · have hyp := hyp.1 c2
    refine cr_iload_n h (j := 3) rfl rfl dX8_bears_53 ?_
    refine cr_iret h rfl rfl rfl dX8_bears_54 ?_
    exact hyp
  · have hyp := hyp.2 c2
    refine cr_iload_n h (j := 3) rfl rfl dX8_bears_27 ?_
    refine cr_aload_n h (j := 0) rfl rfl dX8_bears_28 ?_
    refine cr_getR h (k := 2) cr_clsX8 (by decide) rfl rfl wf_X8_26 (by decide) rfl rfl dX8_bears_29 ?_
    refine cr_aload_n h (j := 0) rfl rfl dX8_bears_32 ?_
    refine cr_getR h (k := 1) cr_clsX8 (by decide) rfl rfl wf_X8_19 (by decide) rfl rfl dX8_bears_33 ?_
    refine cr_iload_n h (j := 1) rfl rfl dX8_bears_36 ?_
    refine cr_iload_n h (j := 2) rfl rfl dX8_bears_37 ?_
    refine cr_iload h rfl dX8_bears_38 ?_
    refine cr_callV h (c0 := 4) (T0 := TX4) C_yX4_weightBetween cZ_yX4_weightBetween wm_X8_215 wv_yX4_weightBetween we_yX4_weightBetween (by decide) rfl rfl (cr_rmS (by decide) (by decide)) (As := [.ref 27, .int x1, .int x2, .int x4]) rfl (Nat.le_of_ble_eq_true rfl) dX8_bears_40 ⟨τ, x1, x2, x4, rfl, hτ, rfl, hyp.1, ?_⟩
    have hyp := hyp.2
    show cr_V Γ 43 [.ref 0, .int x1, .int x2, .int x3, .int x4] [.int (f_yX4_weightBetween τ x1 x2 x4 I), .int x3] I (cr_rf τ) 247
    refine cr_callS h C_yJ9_max_7cf53 cZ_yJ9_max_7cf53 wm_X8_218 ws_yJ9_max_7cf53 (cr_rmS (by decide) (by decide)) (As := [.int x3, .int (f_yX4_weightBetween τ x1 x2 x4 I)]) rfl (Nat.le_of_ble_eq_true rfl) dX8_bears_43 ⟨τ, x3, (f_yX4_weightBetween τ x1 x2 x4 I), rfl, hτ, rfl, ?_⟩
    show cr_V Γ 46 [.ref 0, .int x1, .int x2, .int x3, .int x4] [.int (f_yJ9_max_7cf53 τ x3 (f_yX4_weightBetween τ x1 x2 x4 I) I)] I (cr_rf τ) 247
    refine cs_i_n h 3 rfl (by decide) rfl dX8_bears_46 (fun v1 ev1 => ?_)
    have hyp := hyp v1 ev1
    show cr_V Γ 47 [.ref 0, .int x1, .int x2, .int v1, .int x4] [] I (cr_rf τ) 247
    refine cs_inc h (v := (1 : Int32)) 4 rfl (by decide) (by decide) rfl dX8_bears_47 (fun v2 ev2 => ?_)
    have hyp := hyp v2 ev2
    show cr_V Γ 50 [.ref 0, .int x1, .int x2, .int v1, .int v2] [] I (cr_rf τ) 247
    refine cr_goto h (tgt := 20) (by decide) dX8_bears_50 ?_
    exact cr_weak [true, true, true, true, true] hyp
abbrev T_yX8_bears : cr_T := fun vs I R K => ∃ (τ : Nat → Nat) (x1 : Int32) (x2 : Int32), R = cr_rf τ ∧ cr_tau τ ∧ vs = [.ref 0, .int x1, .int x2] ∧ p_yX8_bears τ x1 x2 I ∧ ∀ (r : Int32) J, q_yX8_bears τ x1 x2 I r J → K (some (.int r)) J (cr_rf τ)
abbrev S_yX8_bears : Prop := cr_C yX8_bears cX8_bears 5 (some .int) (cr_rm0 6 144) 247 247 T_yX8_bears
theorem G_yX8_bears (H : ∀ (Γ : cr_G) (K : cr_K) (τ : Nat → Nat) (x1 : Int32) (x2 : Int32) (I : cr_I), cr_tau τ → cr_Ok yX8_bears cX8_bears 5 (some .int) (cr_rm0 6 144) K 247 247 Γ → p_yX8_bears τ x1 x2 I → (∀ (r : Int32) J, q_yX8_bears τ x1 x2 I r J → K (some (.int r)) J (cr_rf τ)) → cr_V Γ 0 [.ref 0, .int x1, .int x2, .null, .null] [] I (cr_rf τ) 247) : cr_C yX8_bears cX8_bears 5 (some .int) (cr_rm0 6 144) 247 247 T_yX8_bears := by
  refine cr_C.of (by decide +kernel) (fun vs I R K hT => ?_) (fun Γ K h vs I R hT => ?_)
  · obtain ⟨τ, x1, x2, rfl, hτ, rfl, hp, hK⟩ := hT
    exact Nat.le_of_ble_eq_true rfl
  · obtain ⟨τ, x1, x2, rfl, hτ, rfl, hp, hK⟩ := hT
    exact H Γ K τ x1 x2 I hτ h hp hK
theorem C_yX8_bears : S_yX8_bears := G_yX8_bears (by
  intro Γ K τ x1 x2 I hτ h hp hK
  obtain ⟨eN, h1, h6⟩ := hp.1.1.un
  unfold q_yX8_bears at hK
  refine bk_yX8_bears_0 hτ h ⟨fun c => cw_told hp fun J hf hc => ?_, fun c => hK _ _ (Or.inl ⟨c, rfl, rfl⟩)⟩
  have hpn : pn (cr_cpar τ I) = cr_cn0 I := rfl
  have hlo := hf.lo
  have hmk := hp.1.2.2.2.1
  have hmlt := fun i (hi : i < 6) => cr_cmk_lt hp.1 hi
  generalize cr_cpar τ I = pp at *
  have key : ∀ t, t < 32 → p_yX4_weightBetween τ x1 x2 (nI t) J ∧ f_yX4_weightBetween τ x1 x2 (nI t) J = cr_wgR pp (I 130 0) (cr_dl (I 130 2)) (I 27 4) (fun i => I (29 + 25 * cr_cmk I i) 0) x1 x2 t := by
    intro t ht
    refine ⟨⟨(hlo.rok hτ hp.1).1, (hlo.rok hτ hp.1).2.2.2.1, by rw [cr_nt (by omega)]; omega⟩, ?_⟩
    unfold f_yX4_weightBetween cr_wgR
    rw [cr_nc (by omega), hlo.n, hpn]
    refine cr_wgS_c _ (fun i hi => ⟨(hc.1 i (t + 1) (by omega) (by omega)).2.2, ?_⟩)
    have hm := hmlt i (by omega)
    have em : cr_cmk J i = cr_cmk I i := by unfold cr_cmk; rw [hlo 129 i (by omega)]
    show J (29 + 25 * cr_cmk J i) 0 = I (29 + 25 * cr_cmk I i) 0
    rw [em, hlo _ 0 (by omega)]
  refine cr_loop (fun t => cr_V Γ 20 [.ref 0, .int x1, .int x2, .int (cr_brS (cr_wgR pp (I 130 0) (cr_dl (I 130 2)) (I 27 4) (fun i => I (29 + 25 * cr_cmk I i) 0) x1 x2) t), .int (nI t)] [] J (cr_rf τ) 247) 32 ?_ ?_ 0 (Nat.zero_le _)
  · exact bk_yX8_bears_20 hτ h ⟨fun _ => hK _ _ (Or.inr ⟨c, hf, rfl⟩), fun z => absurd (by decide) z⟩
  · intro t ht ih
    refine bk_yX8_bears_20 hτ h ⟨fun z => absurd z (nI_ge (a := t) (b := 32) ht (by omega)), fun _ => ⟨(key t ht).1, ?_⟩⟩
    rw [(key t ht).2]
    rintro v rfl w rfl
    rw [nI_1]
    exact ih)
/-! words each of which would have spared it -/
def cr_w1 (s : Nat) : Int32 := (1 : Int32) <<< (nI s &&& 31)
def cr_spF (tch : Int32 → Bool) (lost : Int32) : Nat → Int32
  | 0 => 0
  | s + 1 => if lost &&& cr_w1 s = 0 then cr_spF tch lost s else if tch (lost &&& (cr_w1 s ^^^ (-1 : Int32))) = true then cr_spF tch lost s else cr_spF tch lost s ||| cr_w1 s
def p_yX8_sparing (τ : Nat → Nat) (I : cr_I) : Prop := cr_ctld τ I
def q_yX8_sparing (τ : Nat → Nat) (I : cr_I) (r : Int32) (J : cr_I) : Prop := cr_fr 137 168 I J ∧ r = if cr_tch (cr_cpar τ I) (I 130 0) (cr_dl (I 130 2)) (I 27 4) = true then cr_spF (cr_tch (cr_cpar τ I) (I 130 0) (cr_dl (I 130 2))) (I 27 4) 32 else 0
theorem bk_yX8_sparing_0 {Γ : cr_G} {K : cr_K} {τ : Nat → Nat} {I : cr_I}  (hτ : cr_tau τ)  (h : cr_Ok yX8_sparing cX8_sparing 6 (some .int) (cr_rm0 5 124) K 247 247 Γ) (hyp : ∀ v1 : Int32, v1 = (I 130 0) → (∀ v2 : Int32, v2 = (I 130 2) → (p_yX4_touches τ v1 v2 (I 27 4) I ∧ (∀ (r1 : Int32) (J1 : cr_I), q_yX4_touches τ v1 v2 (I 27 4) I r1 J1 → ((¬ r1 = 0 → cr_V Γ 50 [.ref 0, .int v1, .int v2, .int (0 : Int32), .int (0 : Int32), .null] [] J1 (cr_rf τ) 247) ∧ (r1 = 0 → K (some (.int (0 : Int32))) J1 (cr_rf τ))))))) : cr_V Γ 0 [.ref 0, .null, .null, .null, .null, .null] [] I (cr_rf τ) 247 := by
  refine cr_aload_n h (j := 0) rfl rfl dX8_sparing_0 ?_
  refine cr_getR h (k := 1) cr_clsX8 (by decide) rfl rfl wf_X8_19 (by decide) rfl rfl dX8_sparing_1 ?_
  refine cr_getR h (k := 3) cr_clsX3 (by decide) rfl rfl wf_X8_116 (by decide) rfl rfl dX8_sparing_4 ?_
  refine cr_iconst h (v := (0 : Int32)) (by decide) dX8_sparing_7 ?_
  refine cs_ild h (by decide) rfl (by decide) (q := 0) (by decide) dX8_sparing_8 ?_
  refine cs_i_n h 1 rfl (by decide) rfl dX8_sparing_9 (fun v1 ev1 => ?_)
  have hyp := hyp v1 ev1
  show cr_V Γ 10 [.ref 0, .int v1, .null, .null, .null, .null] [] I (cr_rf τ) 247
  refine cr_aload_n h (j := 0) rfl rfl dX8_sparing_10 ?_
  refine cr_getR h (k := 1) cr_clsX8 (by decide) rfl rfl wf_X8_19 (by decide) rfl rfl dX8_sparing_11 ?_
  refine cr_getR h (k := 3) cr_clsX3 (by decide) rfl rfl wf_X8_116 (by decide) rfl rfl dX8_sparing_14 ?_
  refine cr_iconst h (v := (2 : Int32)) (by decide) dX8_sparing_17 ?_
  refine cs_ild h (by decide) rfl (by decide) (q := 2) (by decide) dX8_sparing_18 ?_
  refine cs_i_n h 2 rfl (by decide) rfl dX8_sparing_19 (fun v2 ev2 => ?_)
  have hyp := hyp v2 ev2
  show cr_V Γ 20 [.ref 0, .int v1, .int v2, .null, .null, .null] [] I (cr_rf τ) 247
  refine cr_aload_n h (j := 0) rfl rfl dX8_sparing_20 ?_
  refine cr_getR h (k := 2) cr_clsX8 (by decide) rfl rfl wf_X8_26 (by decide) rfl rfl dX8_sparing_21 ?_
  refine cr_aload_n h (j := 0) rfl rfl dX8_sparing_24 ?_
  refine cr_getR h (k := 1) cr_clsX8 (by decide) rfl rfl wf_X8_19 (by decide) rfl rfl dX8_sparing_25 ?_
  refine cr_iload_n h (j := 1) rfl rfl dX8_sparing_28 ?_
  refine cr_iload_n h (j := 2) rfl rfl dX8_sparing_29 ?_
  refine cr_aload_n h (j := 0) rfl rfl dX8_sparing_30 ?_
  refine cr_getR h (k := 1) cr_clsX8 (by decide) rfl rfl wf_X8_19 (by decide) rfl rfl dX8_sparing_31 ?_
  refine cr_getI h (k := 4) cr_clsX3 (by decide) rfl rfl wf_X8_128 (by decide) rfl dX8_sparing_34 ?_
  refine cr_callV h (c0 := 4) (T0 := TX4) C_yX4_touches cZ_yX4_touches wm_X8_211 wv_yX4_touches we_yX4_touches (by decide) rfl rfl (cr_rmS (by decide) (by decide)) (As := [.ref 27, .int v1, .int v2, .int (I 27 4)]) rfl (Nat.le_of_ble_eq_true rfl) dX8_sparing_37 ⟨τ, v1, v2, (I 27 4), rfl, hτ, rfl, hyp.1, fun r1 J1 q1 => ?_⟩
  have hyp := hyp.2 r1 J1 q1
  show cr_V Γ 40 [.ref 0, .int v1, .int v2, .null, .null, .null] [.int r1] J1 (cr_rf τ) 247
  refine cr_if_ne h (tgt := 45) (by decide) dX8_sparing_40 (fun c1 => ?_) (fun c1 => ?_)
  · have hyp := hyp.1 c1
    refine cr_iconst h (v := (0 : Int32)) (by decide) dX8_sparing_45 ?_
    refine cr_istore_n h (j := 3) rfl (by decide) rfl dX8_sparing_46 ?_
    show cr_V Γ 47 [.ref 0, .int v1, .int v2, .int (0 : Int32), .null, .null] [] J1 (cr_rf τ) 247
    refine cr_iconst h (v := (0 : Int32)) (by decide) dX8_sparing_47 ?_
    refine cr_istore h (by decide) rfl dX8_sparing_48 ?_
    show cr_V Γ 50 [.ref 0, .int v1, .int v2, .int (0 : Int32), .int (0 : Int32), .null] [] J1 (cr_rf τ) 247
    exact cr_weak [true, true, true, true, true, false] hyp
  · have hyp := hyp.2 c1
    refine cr_iconst h (v := (0 : Int32)) (by decide) dX8_sparing_43 ?_
    refine cr_iret h rfl rfl rfl dX8_sparing_44 ?_
    exact hyp
theorem bk_yX8_sparing_50 {Γ : cr_G} {K : cr_K} {τ : Nat → Nat} {I : cr_I} {x1 : Int32} {x2 : Int32} {x3 : Int32} {x4 : Int32} (hτ : cr_tau τ)  (h : cr_Ok yX8_sparing cX8_sparing 6 (some .int) (cr_rm0 5 124) K 247 247 Γ) (hyp : ((32 : Int32) ≤ x4 → K (some (.int x3)) I (cr_rf τ)) ∧ (¬ (32 : Int32) ≤ x4 → (∀ v3 : Int32, v3 = ((1 : Int32) <<< (x4 &&& 31)) → ((((I 27 4) &&& v3) = 0 → (∀ v4 : Int32, v4 = x4 + (1 : Int32) → cr_V Γ 50 [.ref 0, .int x1, .int x2, .int x3, .int v4, .null] [] I (cr_rf τ) 247)) ∧ (¬ ((I 27 4) &&& v3) = 0 → (p_yX4_touches τ x1 x2 ((I 27 4) &&& (v3 ^^^ (-1 : Int32))) I ∧ (∀ (r2 : Int32) (J2 : cr_I), q_yX4_touches τ x1 x2 ((I 27 4) &&& (v3 ^^^ (-1 : Int32))) I r2 J2 → ((¬ r2 = 0 → (∀ v5 : Int32, v5 = x4 + (1 : Int32) → cr_V Γ 50 [.ref 0, .int x1, .int x2, .int x3, .int v5, .null] [] J2 (cr_rf τ) 247)) ∧ (r2 = 0 → (∀ v6 : Int32, v6 = (x3 ||| v3) → (∀ v7 : Int32, v7 = x4 + (1 : Int32) → cr_V Γ 50 [.ref 0, .int x1, .int x2, .int v6, .int v7, .null] [] J2 (cr_rf τ) 247))))))))))) : cr_V Γ 50 [.ref 0, .int x1, .int x2, .int x3, .int x4, .null] [] I (cr_rf τ) 247 := by
  refine cr_iload h rfl dX8_sparing_50 ?_
  refine cr_bipush h (v := (32 : Int32)) (by decide) dX8_sparing_52 ?_
  refine cr_icmp_ge h (tgt := 115) (by decide) dX8_sparing_54 (fun c2 => ?_) (fun c2 => ?_)
  · have hyp := hyp.1 c2
    refine cr_iload_n h (j := 3) rfl rfl dX8_sparing_115 ?_
    refine cr_iret h rfl rfl rfl dX8_sparing_116 ?_
    exact hyp
  · have hyp := hyp.2 c2
    refine cr_iconst h (v := (1 : Int32)) (by decide) dX8_sparing_57 ?_
    refine cr_iload h rfl dX8_sparing_58 ?_
    refine cr_ishl h dX8_sparing_60 ?_
    refine cs_i h 5 (by decide) rfl dX8_sparing_61 (fun v3 ev3 => ?_)
    have hyp := hyp v3 ev3
    show cr_V Γ 63 [.ref 0, .int x1, .int x2, .int x3, .int x4, .int v3] [] I (cr_rf τ) 247
    refine cr_aload_n h (j := 0) rfl rfl dX8_sparing_63 ?_
    refine cr_getR h (k := 1) cr_clsX8 (by decide) rfl rfl wf_X8_19 (by decide) rfl rfl dX8_sparing_64 ?_
    refine cr_getI h (k := 4) cr_clsX3 (by decide) rfl rfl wf_X8_128 (by decide) rfl dX8_sparing_67 ?_
    refine cr_iload h rfl dX8_sparing_70 ?_
    refine cr_iand h dX8_sparing_72 ?_
    refine cr_if_eq h (tgt := 109) (by decide) dX8_sparing_73 (fun c3 => ?_) (fun c3 => ?_)
    · have hyp := hyp.1 c3
      refine cs_inc h (v := (1 : Int32)) 4 rfl (by decide) (by decide) rfl dX8_sparing_109 (fun v4 ev4 => ?_)
      have hyp := hyp v4 ev4
      show cr_V Γ 112 [.ref 0, .int x1, .int x2, .int x3, .int v4, .int v3] [] I (cr_rf τ) 247
      refine cr_goto h (tgt := 50) (by decide) dX8_sparing_112 ?_
      exact cr_weak [true, true, true, true, true, false] hyp
    · have hyp := hyp.2 c3
      refine cr_aload_n h (j := 0) rfl rfl dX8_sparing_76 ?_
      refine cr_getR h (k := 2) cr_clsX8 (by decide) rfl rfl wf_X8_26 (by decide) rfl rfl dX8_sparing_77 ?_
      refine cr_aload_n h (j := 0) rfl rfl dX8_sparing_80 ?_
      refine cr_getR h (k := 1) cr_clsX8 (by decide) rfl rfl wf_X8_19 (by decide) rfl rfl dX8_sparing_81 ?_
      refine cr_iload_n h (j := 1) rfl rfl dX8_sparing_84 ?_
      refine cr_iload_n h (j := 2) rfl rfl dX8_sparing_85 ?_
      refine cr_aload_n h (j := 0) rfl rfl dX8_sparing_86 ?_
      refine cr_getR h (k := 1) cr_clsX8 (by decide) rfl rfl wf_X8_19 (by decide) rfl rfl dX8_sparing_87 ?_
      refine cr_getI h (k := 4) cr_clsX3 (by decide) rfl rfl wf_X8_128 (by decide) rfl dX8_sparing_90 ?_
      refine cr_iload h rfl dX8_sparing_93 ?_
      refine cr_iconst h (v := (-1 : Int32)) (by decide) dX8_sparing_95 ?_
      refine cr_ixor h dX8_sparing_96 ?_
      refine cr_iand h dX8_sparing_97 ?_
      refine cr_callV h (c0 := 4) (T0 := TX4) C_yX4_touches cZ_yX4_touches wm_X8_211 wv_yX4_touches we_yX4_touches (by decide) rfl rfl (cr_rmS (by decide) (by decide)) (As := [.ref 27, .int x1, .int x2, .int ((I 27 4) &&& (v3 ^^^ (-1 : Int32)))]) rfl (Nat.le_of_ble_eq_true rfl) dX8_sparing_98 ⟨τ, x1, x2, ((I 27 4) &&& (v3 ^^^ (-1 : Int32))), rfl, hτ, rfl, hyp.1, fun r2 J2 q2 => ?_⟩
      have hyp := hyp.2 r2 J2 q2
      show cr_V Γ 101 [.ref 0, .int x1, .int x2, .int x3, .int x4, .int v3] [.int r2] J2 (cr_rf τ) 247
      refine cr_if_ne h (tgt := 109) (by decide) dX8_sparing_101 (fun c4 => ?_) (fun c4 => ?_)
      · have hyp := hyp.1 c4
        refine cs_inc h (v := (1 : Int32)) 4 rfl (by decide) (by decide) rfl dX8_sparing_109 (fun v5 ev5 => ?_)
        have hyp := hyp v5 ev5
        show cr_V Γ 112 [.ref 0, .int x1, .int x2, .int x3, .int v5, .int v3] [] J2 (cr_rf τ) 247
        refine cr_goto h (tgt := 50) (by decide) dX8_sparing_112 ?_
        exact cr_weak [true, true, true, true, true, false] hyp
      · have hyp := hyp.2 c4
        refine cr_iload_n h (j := 3) rfl rfl dX8_sparing_104 ?_
        refine cr_iload h rfl dX8_sparing_105 ?_
        refine cr_ior h dX8_sparing_107 ?_
        refine cs_i_n h 3 rfl (by decide) rfl dX8_sparing_108 (fun v6 ev6 => ?_)
        have hyp := hyp v6 ev6
        show cr_V Γ 109 [.ref 0, .int x1, .int x2, .int v6, .int x4, .int v3] [] J2 (cr_rf τ) 247
        refine cs_inc h (v := (1 : Int32)) 4 rfl (by decide) (by decide) rfl dX8_sparing_109 (fun v7 ev7 => ?_)
        have hyp := hyp v7 ev7
        show cr_V Γ 112 [.ref 0, .int x1, .int x2, .int v6, .int v7, .int v3] [] J2 (cr_rf τ) 247
        refine cr_goto h (tgt := 50) (by decide) dX8_sparing_112 ?_
        exact cr_weak [true, true, true, true, true, false] hyp
abbrev T_yX8_sparing : cr_T := fun vs I R K => ∃ (τ : Nat → Nat), R = cr_rf τ ∧ cr_tau τ ∧ vs = [.ref 0] ∧ p_yX8_sparing τ I ∧ ∀ (r : Int32) J, q_yX8_sparing τ I r J → K (some (.int r)) J (cr_rf τ)
abbrev S_yX8_sparing : Prop := cr_C yX8_sparing cX8_sparing 6 (some .int) (cr_rm0 5 124) 247 247 T_yX8_sparing
theorem G_yX8_sparing (H : ∀ (Γ : cr_G) (K : cr_K) (τ : Nat → Nat) (I : cr_I), cr_tau τ → cr_Ok yX8_sparing cX8_sparing 6 (some .int) (cr_rm0 5 124) K 247 247 Γ → p_yX8_sparing τ I → (∀ (r : Int32) J, q_yX8_sparing τ I r J → K (some (.int r)) J (cr_rf τ)) → cr_V Γ 0 [.ref 0, .null, .null, .null, .null, .null] [] I (cr_rf τ) 247) : cr_C yX8_sparing cX8_sparing 6 (some .int) (cr_rm0 5 124) 247 247 T_yX8_sparing := by
  refine cr_C.of (by decide +kernel) (fun vs I R K hT => ?_) (fun Γ K h vs I R hT => ?_)
  · obtain ⟨τ, rfl, hτ, rfl, hp, hK⟩ := hT
    exact Nat.le_of_ble_eq_true rfl
  · obtain ⟨τ, rfl, hτ, rfl, hp, hK⟩ := hT
    exact H Γ K τ I hτ h hp hK
theorem C_yX8_sparing : S_yX8_sparing := G_yX8_sparing (by
  intro Γ K τ I hτ h hp hK
  unfold q_yX8_sparing at hK
  have hpar : ∀ {J : cr_I}, cr_fr 137 168 I J → cr_cpar τ J = cr_cpar τ I := fun hf => hf.lo.par hτ hp.1
  generalize cr_cpar τ I = pp at *
  refine bk_yX8_sparing_0 hτ h ?_
  rintro v1 rfl v2 rfl
  refine ⟨hp, fun r1 J1 hq => ?_⟩
  obtain ⟨hf1, er⟩ := hq
  rw [hpar cr_fr.rf] at er
  by_cases tt : cr_tch pp (I 130 0) (cr_dl (I 130 2)) (I 27 4) = true
  · rw [if_pos tt] at er hK
    subst er
    refine ⟨fun _ => ?_, fun z => absurd z (by decide)⟩
    refine cr_loop (fun s => ∀ J, cr_fr 137 168 I J → cr_V Γ 50 [.ref 0, .int (I 130 0), .int (I 130 2), .int (cr_spF (cr_tch pp (I 130 0) (cr_dl (I 130 2))) (I 27 4) s), .int (nI s), .null] [] J (cr_rf τ) 247) 32 ?_ ?_ 0 (Nat.zero_le _) J1 hf1
    · intro J hf
      exact bk_yX8_sparing_50 hτ h ⟨fun _ => hK _ _ ⟨hf, rfl⟩, fun z => absurd (by decide) z⟩
    · intro s hs ih J hf
      refine bk_yX8_sparing_50 hτ h ⟨fun z => absurd z (nI_ge (a := s) (b := 32) hs (by omega)), fun _ => ?_⟩
      rw [hf 27 4 (by omega)]
      rintro v3 e3
      have e3' : v3 = cr_w1 s := e3
      subst e3'
      refine ⟨fun c => ?_, fun c => ⟨⟨hf.lo.rok hτ hp.1, hp.2⟩, fun r2 J2 hq2 => ?_⟩⟩
      · rintro v rfl
        rw [nI_1]
        have ih := ih J hf
        rw [cr_spF, if_pos c] at ih
        exact ih
      · obtain ⟨hf2, er⟩ := hq2
        rw [hpar hf] at er
        have hf2' := hf.tr hf2
        have ih := ih J2 hf2'
        rw [cr_spF, if_neg c] at ih
        by_cases t2 : cr_tch pp (I 130 0) (cr_dl (I 130 2)) (I 27 4 &&& (cr_w1 s ^^^ (-1 : Int32))) = true
        · rw [if_pos t2] at er ih
          subst er
          refine ⟨fun _ => ?_, fun z => absurd z (by decide)⟩
          rintro v rfl
          rw [nI_1]
          exact ih
        · rw [if_neg t2] at er ih
          subst er
          refine ⟨fun z => absurd rfl z, fun _ => ?_⟩
          rintro v rfl w rfl
          rw [nI_1]
          exact ih
  · rw [if_neg tt] at er hK
    subst er
    exact ⟨fun z => absurd rfl z, fun _ => hK _ _ ⟨hf1, rfl⟩⟩)
/-! the least gap -/
def cr_ndS (ok : Nat → Bool) : Nat → Nat → Int32
  | _, 0 => -1
  | g, m + 1 => if ok g = true then nI g else cr_ndS ok (g + 1) m
def cr_sfe (p : cr_par) (w l : Nat) (g : Nat) : Bool := decide (cr_wF (cr_gW p (nI g) l) 0 (w + 1) = -1)
def p_yX8_need (τ : Nat → Nat) (x1 x2 : Int32) (I : cr_I) : Prop := cr_rok τ I
def q_yX8_need (τ : Nat → Nat) (x1 x2 : Int32) (I : cr_I) (r : Int32) (J : cr_I) : Prop := (¬ (f_yX8_areNoChances τ x1 x2 I = 0) ∧ r = -3 ∧ J = I) ∨ (f_yX8_areNoChances τ x1 x2 I = 0 ∧ cr_fr 137 168 I J ∧ r = cr_ndS (cr_sfe (cr_cpar τ I) x1.toNatClampNeg x2.toNatClampNeg) 1 60)
theorem cr_noch {τ : Nat → Nat} {x1 x2 : Int32} {I : cr_I} : f_yX8_areNoChances τ x1 x2 I = 0 ↔ ((0 ≤ x1.toInt ∧ x1.toInt ≤ 4) ∧ (0 ≤ x2.toInt ∧ x2.toInt ≤ 2)) := by
  unfold f_yX8_areNoChances
  have z0 : (0 : Int32).toInt = 0 := rfl
  have z4 : (4 : Int32).toInt = 4 := rfl
  have z2 : (2 : Int32).toInt = 2 := rfl
  simp only [cr_out0, z0, z4, z2]
  by_cases q1 : 0 ≤ x1.toInt ∧ x1.toInt ≤ 4
  · rw [if_pos q1]
    by_cases q2 : 0 ≤ x2.toInt ∧ x2.toInt ≤ 2
    · rw [if_pos q2]; exact ⟨fun _ => ⟨q1, q2⟩, fun _ => rfl⟩
    · rw [if_neg q2]; exact ⟨fun z => absurd z (by decide), fun z => absurd z.2 q2⟩
  · rw [if_neg q1]; exact ⟨fun z => absurd z (by decide), fun z => absurd z.1 q1⟩
theorem cr_firstS_n {f : Nat → Bool} {k : Nat} (h : f k = true) : ∀ m l, l ≤ k → k < l + m → ¬ cr_firstS f l m = none
  | 0, l, h1, h2 => by omega
  | m + 1, l, h1, h2 => by
    rw [cr_firstS]
    by_cases q : f l = true
    · rw [if_pos q]; exact fun z => by cases z
    · rw [if_neg q]
      have : l ≠ k := fun e => q (by rw [e]; exact h)
      exact cr_firstS_n h m (l + 1) (by omega) (by omega)
theorem cr_firstS_s {f : Nat → Bool} {k : Nat} : ∀ m l, cr_firstS f l m = some k → f k = true ∧ l ≤ k ∧ k < l + m
  | 0, l, h => by cases (show (none : Option Nat) = some k from h)
  | m + 1, l, h => by
    rw [cr_firstS] at h
    by_cases q : f l = true
    · rw [if_pos q] at h
      cases h
      exact ⟨q, by omega, by omega⟩
    · rw [if_neg q] at h
      have := cr_firstS_s m (l + 1) h
      exact ⟨this.1, by omega, by omega⟩
theorem cr_wF_ne {F : Nat → Option Nat} {v : Nat} (hF : ∀ w m, w ≤ v → F w = some m → 256 * w + m < 100000) (h : ¬ F v = none) : ∀ m w, w ≤ v → v < w + m → ¬ cr_wF F w m = -1
  | 0, w, h1, h2 => by omega
  | m + 1, w, h1, h2 => by
    cases hw : F w with
    | some q =>
      rw [cr_wF_s hw, cr_eq, cr_nt (hF w q h1 hw)]
      have : (-1 : Int32).toInt = -1 := rfl
      omega
    | none =>
      rw [cr_wF_n hw]
      have : w ≠ v := fun e => h (by rw [← e]; exact hw)
      exact cr_wF_ne hF h m (w + 1) (by omega) (by omega)
theorem cr_wF_so {F : Nat → Option Nat} : ∀ m w, ¬ cr_wF F w m = -1 → ∃ v q, w ≤ v ∧ v < w + m ∧ F v = some q ∧ cr_wF F w m = nI (256 * v + q)
  | 0, w, h => absurd rfl h
  | m + 1, w, h => by
    cases hw : F w with
    | some q => exact ⟨w, q, by omega, by omega, hw, cr_wF_s hw⟩
    | none =>
      rw [cr_wF_n hw] at h ⊢
      obtain ⟨v, q, a, b, c, d⟩ := cr_wF_so m (w + 1) h
      exact ⟨v, q, by omega, by omega, c, d⟩
theorem cr_gW_lt {p : cr_par} {g : Int32} {l w m : Nat} (h : cr_gW p g l w = some m) : m < 256 ∧ cr_pc m ≤ l := by
  unfold cr_gW cr_gF at h
  have := cr_firstS_s 256 0 h
  have h1 := this.1
  rw [Bool.and_eq_true] at h1
  exact ⟨by omega, of_decide_eq_true h1.1⟩
theorem bk_yX8_need_0 {Γ : cr_G} {K : cr_K} {τ : Nat → Nat} {I : cr_I} {x1 : Int32} {x2 : Int32} (hτ : cr_tau τ)  (h : cr_Ok yX8_need cX8_need 6 (some .int) (cr_rm0 6 150) K 247 247 Γ) (hyp : ((f_yX8_areNoChances τ x1 x2 I) = 0 → cr_V Γ 16 [.ref 0, .int x1, .int x2, .int (0 : Int32), .int (1 : Int32), .null] [] I (cr_rf τ) 247) ∧ (¬ (f_yX8_areNoChances τ x1 x2 I) = 0 → K (some (.int (-3 : Int32))) I (cr_rf τ))) : cr_V Γ 0 [.ref 0, .int x1, .int x2, .null, .null, .null] [] I (cr_rf τ) 247 := by
  refine cr_iload_n h (j := 1) rfl rfl dX8_need_0 ?_
  refine cr_iload_n h (j := 2) rfl rfl dX8_need_1 ?_
  refine cr_callS h C_yX8_areNoChances cZ_yX8_areNoChances wm_X8_204 ws_yX8_areNoChances (cr_rmS (by decide) (by decide)) (As := [.int x1, .int x2]) rfl (Nat.le_of_ble_eq_true rfl) dX8_need_2 ⟨τ, x1, x2, rfl, hτ, rfl, ?_⟩
  show cr_V Γ 5 [.ref 0, .int x1, .int x2, .null, .null, .null] [.int (f_yX8_areNoChances τ x1 x2 I)] I (cr_rf τ) 247
  refine cr_if_eq h (tgt := 11) (by decide) dX8_need_5 (fun c1 => ?_) (fun c1 => ?_)
  · have hyp := hyp.1 c1
    refine cr_iconst h (v := (0 : Int32)) (by decide) dX8_need_11 ?_
    refine cr_istore_n h (j := 3) rfl (by decide) rfl dX8_need_12 ?_
    show cr_V Γ 13 [.ref 0, .int x1, .int x2, .int (0 : Int32), .null, .null] [] I (cr_rf τ) 247
    refine cr_iconst h (v := (1 : Int32)) (by decide) dX8_need_13 ?_
    refine cr_istore h (by decide) rfl dX8_need_14 ?_
    show cr_V Γ 16 [.ref 0, .int x1, .int x2, .int (0 : Int32), .int (1 : Int32), .null] [] I (cr_rf τ) 247
    exact cr_weak [true, true, true, true, true, false] hyp
  · have hyp := hyp.2 c1
    refine cr_bipush h (v := (-3 : Int32)) (by decide) dX8_need_8 ?_
    refine cr_iret h rfl rfl rfl dX8_need_10 ?_
    exact hyp
theorem bk_yX8_need_16 {Γ : cr_G} {K : cr_K} {τ : Nat → Nat} {I : cr_I} {x1 : Int32} {x2 : Int32} {x3 : Int32} {x4 : Int32} (hτ : cr_tau τ)  (h : cr_Ok yX8_need cX8_need 6 (some .int) (cr_rm0 6 150) K 247 247 Γ) (hyp : ((60 : Int32) < x4 → K (some (.int (-1 : Int32))) I (cr_rf τ)) ∧ (¬ (60 : Int32) < x4 → (p_yX4_touches τ x4 (x3 / (256 : Int32)) (x3 - x3 / (256 : Int32) * (256 : Int32)) I ∧ (∀ (r1 : Int32) (J1 : cr_I), q_yX4_touches τ x4 (x3 / (256 : Int32)) (x3 - x3 / (256 : Int32) * (256 : Int32)) I r1 J1 → ((r1 = 0 → (p_yX4_firstTouching τ x4 x1 x2 J1 ∧ (∀ (r2 : Int32) (J2 : cr_I), q_yX4_firstTouching τ x4 x1 x2 J1 r2 J2 → ((¬ r2 = (-1 : Int32) → (∀ v1 : Int32, v1 = x4 + (1 : Int32) → cr_V Γ 16 [.ref 0, .int x1, .int x2, .int r2, .int v1, .null] [] J2 (cr_rf τ) 247)) ∧ (r2 = (-1 : Int32) → K (some (.int x4)) J2 (cr_rf τ)))))) ∧ (¬ r1 = 0 → (∀ v2 : Int32, v2 = x4 + (1 : Int32) → cr_V Γ 16 [.ref 0, .int x1, .int x2, .int x3, .int v2, .null] [] J1 (cr_rf τ) 247))))))) : cr_V Γ 16 [.ref 0, .int x1, .int x2, .int x3, .int x4, .null] [] I (cr_rf τ) 247 := by
  refine cr_iload h rfl dX8_need_16 ?_
  refine cr_bipush h (v := (60 : Int32)) (by decide) dX8_need_18 ?_
  refine cr_icmp_gt h (tgt := 87) (by decide) dX8_need_20 (fun c2 => ?_) (fun c2 => ?_)
  · have hyp := hyp.1 c2
    refine cr_iconst h (v := (-1 : Int32)) (by decide) dX8_need_87 ?_
    refine cr_iret h rfl rfl rfl dX8_need_88 ?_
    exact hyp
  · have hyp := hyp.2 c2
    refine cr_aload_n h (j := 0) rfl rfl dX8_need_23 ?_
    refine cr_getR h (k := 2) cr_clsX8 (by decide) rfl rfl wf_X8_26 (by decide) rfl rfl dX8_need_24 ?_
    refine cr_aload_n h (j := 0) rfl rfl dX8_need_27 ?_
    refine cr_getR h (k := 1) cr_clsX8 (by decide) rfl rfl wf_X8_19 (by decide) rfl rfl dX8_need_28 ?_
    refine cr_iload h rfl dX8_need_31 ?_
    refine cr_iload_n h (j := 3) rfl rfl dX8_need_33 ?_
    refine cr_sipush h (v := (256 : Int32)) (by decide) dX8_need_34 ?_
    refine cr_idiv h (by decide) dX8_need_37 ?_
    refine cr_iload_n h (j := 3) rfl rfl dX8_need_38 ?_
    refine cr_sipush h (v := (256 : Int32)) (by decide) dX8_need_39 ?_
    refine cr_irem h (by decide) dX8_need_42 ?_
    refine cr_callV h (c0 := 4) (T0 := TX4) C_yX4_touches cZ_yX4_touches wm_X8_211 wv_yX4_touches we_yX4_touches (by decide) rfl rfl (cr_rmS (by decide) (by decide)) (As := [.ref 27, .int x4, .int (x3 / (256 : Int32)), .int (x3 - x3 / (256 : Int32) * (256 : Int32))]) rfl (Nat.le_of_ble_eq_true rfl) dX8_need_43 ⟨τ, x4, (x3 / (256 : Int32)), (x3 - x3 / (256 : Int32) * (256 : Int32)), rfl, hτ, rfl, hyp.1, fun r1 J1 q1 => ?_⟩
    have hyp := hyp.2 r1 J1 q1
    show cr_V Γ 46 [.ref 0, .int x1, .int x2, .int x3, .int x4, .null] [.int r1] J1 (cr_rf τ) 247
    refine cr_if_eq h (tgt := 52) (by decide) dX8_need_46 (fun c3 => ?_) (fun c3 => ?_)
    · have hyp := hyp.1 c3
      refine cr_aload_n h (j := 0) rfl rfl dX8_need_52 ?_
      refine cr_getR h (k := 2) cr_clsX8 (by decide) rfl rfl wf_X8_26 (by decide) rfl rfl dX8_need_53 ?_
      refine cr_aload_n h (j := 0) rfl rfl dX8_need_56 ?_
      refine cr_getR h (k := 1) cr_clsX8 (by decide) rfl rfl wf_X8_19 (by decide) rfl rfl dX8_need_57 ?_
      refine cr_iload h rfl dX8_need_60 ?_
      refine cr_iload_n h (j := 1) rfl rfl dX8_need_62 ?_
      refine cr_iload_n h (j := 2) rfl rfl dX8_need_63 ?_
      refine cr_callV h (c0 := 4) (T0 := TX4) C_yX4_firstTouching cZ_yX4_firstTouching wm_X8_207 wv_yX4_firstTouching we_yX4_firstTouching (by decide) rfl rfl (cr_rmS (by decide) (by decide)) (As := [.ref 27, .int x4, .int x1, .int x2]) rfl (Nat.le_of_ble_eq_true rfl) dX8_need_64 ⟨τ, x4, x1, x2, rfl, hτ, rfl, hyp.1, fun r2 J2 q2 => ?_⟩
      have hyp := hyp.2 r2 J2 q2
      show cr_V Γ 67 [.ref 0, .int x1, .int x2, .int x3, .int x4, .null] [.int r2] J2 (cr_rf τ) 247
      refine cr_istore h (by decide) rfl dX8_need_67 ?_
      show cr_V Γ 69 [.ref 0, .int x1, .int x2, .int x3, .int x4, .int r2] [] J2 (cr_rf τ) 247
      refine cr_iload h rfl dX8_need_69 ?_
      refine cr_iconst h (v := (-1 : Int32)) (by decide) dX8_need_71 ?_
      refine cr_icmp_ne h (tgt := 78) (by decide) dX8_need_72 (fun c4 => ?_) (fun c4 => ?_)
      · have hyp := hyp.1 c4
        refine cr_iload h rfl dX8_need_78 ?_
        refine cr_istore_n h (j := 3) rfl (by decide) rfl dX8_need_80 ?_
        show cr_V Γ 81 [.ref 0, .int x1, .int x2, .int r2, .int x4, .int r2] [] J2 (cr_rf τ) 247
        refine cs_inc h (v := (1 : Int32)) 4 rfl (by decide) (by decide) rfl dX8_need_81 (fun v1 ev1 => ?_)
        have hyp := hyp v1 ev1
        show cr_V Γ 84 [.ref 0, .int x1, .int x2, .int r2, .int v1, .int r2] [] J2 (cr_rf τ) 247
        refine cr_goto h (tgt := 16) (by decide) dX8_need_84 ?_
        exact cr_weak [true, true, true, true, true, false] hyp
      · have hyp := hyp.2 c4
        refine cr_iload h rfl dX8_need_75 ?_
        refine cr_iret h rfl rfl rfl dX8_need_77 ?_
        exact hyp
    · have hyp := hyp.2 c3
      refine cr_goto h (tgt := 81) (by decide) dX8_need_49 ?_
      refine cs_inc h (v := (1 : Int32)) 4 rfl (by decide) (by decide) rfl dX8_need_81 (fun v2 ev2 => ?_)
      have hyp := hyp v2 ev2
      show cr_V Γ 84 [.ref 0, .int x1, .int x2, .int x3, .int v2, .null] [] J1 (cr_rf τ) 247
      refine cr_goto h (tgt := 16) (by decide) dX8_need_84 ?_
      exact cr_weak [true, true, true, true, true, false] hyp
abbrev T_yX8_need : cr_T := fun vs I R K => ∃ (τ : Nat → Nat) (x1 : Int32) (x2 : Int32), R = cr_rf τ ∧ cr_tau τ ∧ vs = [.ref 0, .int x1, .int x2] ∧ p_yX8_need τ x1 x2 I ∧ ∀ (r : Int32) J, q_yX8_need τ x1 x2 I r J → K (some (.int r)) J (cr_rf τ)
abbrev S_yX8_need : Prop := cr_C yX8_need cX8_need 6 (some .int) (cr_rm0 6 150) 247 247 T_yX8_need
theorem G_yX8_need (H : ∀ (Γ : cr_G) (K : cr_K) (τ : Nat → Nat) (x1 : Int32) (x2 : Int32) (I : cr_I), cr_tau τ → cr_Ok yX8_need cX8_need 6 (some .int) (cr_rm0 6 150) K 247 247 Γ → p_yX8_need τ x1 x2 I → (∀ (r : Int32) J, q_yX8_need τ x1 x2 I r J → K (some (.int r)) J (cr_rf τ)) → cr_V Γ 0 [.ref 0, .int x1, .int x2, .null, .null, .null] [] I (cr_rf τ) 247) : cr_C yX8_need cX8_need 6 (some .int) (cr_rm0 6 150) 247 247 T_yX8_need := by
  refine cr_C.of (by decide +kernel) (fun vs I R K hT => ?_) (fun Γ K h vs I R hT => ?_)
  · obtain ⟨τ, x1, x2, rfl, hτ, rfl, hp, hK⟩ := hT
    exact Nat.le_of_ble_eq_true rfl
  · obtain ⟨τ, x1, x2, rfl, hτ, rfl, hp, hK⟩ := hT
    exact H Γ K τ x1 x2 I hτ h hp hK
theorem C_yX8_need : S_yX8_need := G_yX8_need (by
  intro Γ K τ x1 x2 I hτ h hp hK
  unfold q_yX8_need at hK
  have hpar : ∀ {J : cr_I}, cr_fr 137 168 I J → cr_cpar τ J = cr_cpar τ I := fun hf => hf.lo.par hτ hp
  generalize cr_cpar τ I = pp at *
  refine bk_yX8_need_0 hτ h ⟨fun c => ?_, fun c => hK _ _ (Or.inl ⟨c, rfl, rfl⟩)⟩
  have hch := cr_noch.mp c
  obtain ⟨e1, hw4⟩ := cr_ofI (B := 4) hch.1.1 hch.1.2
  obtain ⟨e2, hl2⟩ := cr_ofI (B := 2) hch.2.1 hch.2.2
  have hK' : ∀ r J, cr_fr 137 168 I J → r = cr_ndS (cr_sfe pp x1.toNatClampNeg x2.toNatClampNeg) 1 60 → K (some (.int r)) J (cr_rf τ) := fun r J a b => hK _ _ (Or.inr ⟨c, a, b⟩)
  generalize x1.toNatClampNeg = w at *
  generalize x2.toNatClampNeg = l at *
  have key : ∀ m g, g + m = 61 → ∀ J v q, cr_fr 137 168 I J → v ≤ w → q < 256 → cr_pc q ≤ l → cr_ndS (cr_sfe pp w l) 1 60 = cr_ndS (cr_sfe pp w l) g m → cr_V Γ 16 [.ref 0, .int x1, .int x2, .int (nI (256 * v + q)), .int (nI g), .null] [] J (cr_rf τ) 247 := by
    intro m
    induction m with
    | zero =>
      intro g hg J v q hf hv hq hpc he
      refine bk_yX8_need_16 hτ h ⟨fun _ => hK' _ _ hf he.symm, fun z => absurd ?_ z⟩
      exact (cr_nlt (a := 60) (by omega) (by omega)).mpr (by omega)
    | succ m ih =>
      intro g hg J v q hf hv hq hpc he
      have hdiv : nI (256 * v + q) / (256 : Int32) = nI v := by
        rw [show (256 : Int32) = nI 256 from rfl, pk_div (by omega) (by omega) (by omega), show (256 * v + q) / 256 = v by omega]
      have hrem : nI (256 * v + q) - nI (256 * v + q) / (256 : Int32) * (256 : Int32) = nI q := by
        rw [show (256 : Int32) = nI 256 from rfl, pk_rem (by omega) (by omega) (by omega), show (256 * v + q) % 256 = q by omega]
      refine bk_yX8_need_16 hτ h ⟨fun z => absurd ((cr_nlt (a := 60) (by omega) (by omega)).mp z) (by omega), fun _ => ?_⟩
      rw [hrem, hdiv]
      refine ⟨⟨hf.lo.rok hτ hp, by rw [cr_nt (by omega)]; omega⟩, fun r1 J1 hq1 => ?_⟩
      obtain ⟨hf1, er⟩ := hq1
      rw [hpar hf] at er
      have hf1' := hf.tr hf1
      have hdl : cr_dl (nI v) = cr_dlN v := by unfold cr_dl cr_dlN; rw [cr_nc (by omega)]
      rw [hdl] at er
      have he := he.trans (show cr_ndS (cr_sfe pp w l) g (m + 1) = (if cr_sfe pp w l g = true then nI g else cr_ndS (cr_sfe pp w l) (g + 1) m) by rw [cr_ndS])
      have hFb : ∀ u k, u ≤ w → cr_gW pp (nI g) l u = some k → 256 * u + k < 100000 := fun u k hu hk => by have := cr_gW_lt hk; omega
      by_cases tt : cr_tch pp (nI g) (cr_dlN v) (nI q) = true
      · rw [if_pos tt] at er
        subst er
        refine ⟨fun z => absurd z (by decide), fun _ => ?_⟩
        rintro v2 rfl
        rw [nI_1]
        refine ih (g + 1) (by omega) J1 v q hf1' hv hq hpc ?_
        rw [he, if_neg]
        unfold cr_sfe
        intro z
        have z := of_decide_eq_true z
        refine cr_wF_ne (v := v) (fun u k hu hk => hFb u k (by omega) hk) ?_ (w + 1) 0 (by omega) (by omega) z
        unfold cr_gW cr_gF
        exact cr_firstS_n (k := q) (by rw [decide_eq_true hpc, tt]; rfl) 256 0 (by omega) (by omega)
      · rw [if_neg tt] at er
        subst er
        refine ⟨fun _ => ⟨⟨hf1'.lo.rok hτ hp, hch.1, hch.2⟩, fun r2 J2 hq2 => ?_⟩, fun z => absurd rfl z⟩
        obtain ⟨hf2, er2⟩ := hq2
        rw [hpar hf1', e1, e2, cr_nc (by omega), cr_nc (by omega)] at er2
        have hf2' := hf1'.tr hf2
        refine ⟨fun d => ?_, fun d => ?_⟩
        · rintro v1 rfl
          rw [er2] at d
          obtain ⟨v', q', a1, a2, a3, a4⟩ := cr_wF_so _ _ d
          have hlt := cr_gW_lt a3
          rw [nI_1, er2, a4]
          refine ih (g + 1) (by omega) J2 v' q' hf2' (by omega) hlt.1 hlt.2 ?_
          rw [he, if_neg]
          unfold cr_sfe
          intro z
          exact d (of_decide_eq_true z)
        · refine hK' _ _ hf2' ?_
          rw [he, if_pos]
          unfold cr_sfe
          rw [er2] at d
          exact decide_eq_true d
  exact key 60 1 rfl I 0 0 cr_fr.rf (by omega) (by omega) (by show 0 ≤ l; omega) rfl)
