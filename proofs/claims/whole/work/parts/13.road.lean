/-! numbers -/
theorem cr_loop (P : Nat → Prop) (N : Nat) (hx : P N) (hs : ∀ k, k < N → P (k + 1) → P k) : ∀ k, k ≤ N → P k := by
  have key : ∀ m k, k + m = N → P k := by
    intro m
    induction m with
    | zero => intro k hk; rw [show k = N by omega]; exact hx
    | succ m ih => intro k hk; exact hs k (by omega) (ih (k + 1) (by omega))
  exact fun k hk => key (N - k) k (by omega)
theorem cr_ofI {x : Int32} {B : Nat} (h0 : 0 ≤ x.toInt) (h1 : x.toInt ≤ B) : x = nI x.toNatClampNeg ∧ x.toNatClampNeg ≤ B := by
  have e : x.toNatClampNeg = x.toInt.toNat := rfl
  refine ⟨?_, by omega⟩
  apply Int32.toInt_inj.mp
  have := Int32.toInt_lt x
  rw [nI_toInt (by omega)]
  omega
theorem cr_ix {k : Nat} {B : Int} (h : (k : Int) < B) (hB : B ≤ 100000) : 0 ≤ (nI k).toInt ∧ (nI k).toInt < B := by
  rw [nI_toInt (by omega)]
  omega
theorem cr_nc {k : Nat} (h : k < 100000) : (nI k).toNatClampNeg = k := nI_clamp (by omega)
theorem cr_nt {k : Nat} (h : k < 100000) : (nI k).toInt = k := nI_toInt (by omega)
theorem cr_le {x y : Int32} : x ≤ y ↔ x.toInt ≤ y.toInt := Int32.le_iff_toInt_le
theorem cr_lt {x y : Int32} : x < y ↔ x.toInt < y.toInt := Int32.lt_iff_toInt_lt
theorem cr_eq {x y : Int32} : x = y ↔ x.toInt = y.toInt := Int32.toInt_inj.symm
theorem cr_bm {z : Int} (h : -2147483648 ≤ z ∧ z < 2147483648) : z.bmod (2 ^ 32) = z := by
  rw [Int.bmod_eq_of_le] <;> omega
theorem cr_add {x y : Int32} (h : -2147483648 ≤ x.toInt + y.toInt ∧ x.toInt + y.toInt < 2147483648) : (x + y).toInt = x.toInt + y.toInt := by
  rw [Int32.toInt_add, cr_bm h]
theorem cr_sub {x y : Int32} (h : -2147483648 ≤ x.toInt - y.toInt ∧ x.toInt - y.toInt < 2147483648) : (x - y).toInt = x.toInt - y.toInt := by
  rw [Int32.toInt_sub, cr_bm h]
theorem cr_mul {x y : Int32} (h : -2147483648 ≤ x.toInt * y.toInt ∧ x.toInt * y.toInt < 2147483648) : (x * y).toInt = x.toInt * y.toInt := by
  rw [Int32.toInt_mul, cr_bm h]
theorem cr_neg {x : Int32} (h : -2147483648 < x.toInt) : (-x).toInt = -x.toInt := by
  have := Int32.toInt_lt x
  rw [Int32.toInt_neg, cr_bm (by omega)]
theorem cr_nle {k N : Nat} (h : k < N) (hN : N < 100000) : ¬ nI N ≤ nI k := nI_ge h (by omega)
/-! the pushes: the last one of a tick -/
def cr_pushS (tk bw : Nat → Int32) (t : Int32) : Nat → Int32
  | 0 => 0
  | n + 1 => if tk n = t then bw n else cr_pushS tk bw t n
def f_yX3_pushIn (τ : Nat → Nat) (x1 : Int32) (I : cr_I) : Int32 := cr_pushS (I 131) (I 132) x1 (I 27 5).toNatClampNeg
def p_yX3_pushIn (τ : Nat → Nat) (x1 : Int32) (I : cr_I) : Prop := 0 ≤ (I 27 5).toInt ∧ (I 27 5).toInt ≤ 8
theorem bk_yX3_pushIn_0 {Γ : cr_G} {K : cr_K} {τ : Nat → Nat} {I : cr_I} {x1 : Int32} (hτ : cr_tau τ)  (h : cr_Ok yX3_pushIn cX3_pushIn 4 (some .int) (cr_rm0 0 0) K 247 247 Γ) (hyp : cr_V Γ 4 [.ref 27, .int x1, .int (0 : Int32), .int (0 : Int32)] [] I (cr_rf τ) 247) : cr_V Γ 0 [.ref 27, .int x1, .null, .null] [] I (cr_rf τ) 247 := by
  refine cr_iconst h (v := (0 : Int32)) (by decide) dX3_pushIn_0 ?_
  refine cr_istore_n h (j := 2) rfl (by decide) rfl dX3_pushIn_1 ?_
  show cr_V Γ 2 [.ref 27, .int x1, .int (0 : Int32), .null] [] I (cr_rf τ) 247
  refine cr_iconst h (v := (0 : Int32)) (by decide) dX3_pushIn_2 ?_
  refine cr_istore_n h (j := 3) rfl (by decide) rfl dX3_pushIn_3 ?_
  show cr_V Γ 4 [.ref 27, .int x1, .int (0 : Int32), .int (0 : Int32)] [] I (cr_rf τ) 247
  exact cr_weak [true, true, true, true] hyp
theorem bk_yX3_pushIn_4 {Γ : cr_G} {K : cr_K} {τ : Nat → Nat} {I : cr_I} {x1 : Int32} {x2 : Int32} {x3 : Int32} (hτ : cr_tau τ)  (h : cr_Ok yX3_pushIn cX3_pushIn 4 (some .int) (cr_rm0 0 0) K 247 247 Γ) (hyp : ((I 27 5) ≤ x3 → K (some (.int x2)) I (cr_rf τ)) ∧ (¬ (I 27 5) ≤ x3 → ((0 ≤ x3.toInt ∧ x3.toInt < 8) ∧ (¬ (I 131 x3.toNatClampNeg) = x1 → (∀ v1 : Int32, v1 = x3 + (1 : Int32) → cr_V Γ 4 [.ref 27, .int x1, .int x2, .int v1] [] I (cr_rf τ) 247)) ∧ ((I 131 x3.toNatClampNeg) = x1 → ((0 ≤ x3.toInt ∧ x3.toInt < 8) ∧ (∀ v2 : Int32, v2 = (I 132 x3.toNatClampNeg) → (∀ v3 : Int32, v3 = x3 + (1 : Int32) → cr_V Γ 4 [.ref 27, .int x1, .int v2, .int v3] [] I (cr_rf τ) 247))))))) : cr_V Γ 4 [.ref 27, .int x1, .int x2, .int x3] [] I (cr_rf τ) 247 := by
  refine cr_iload_n h (j := 3) rfl rfl dX3_pushIn_4 ?_
  refine cr_aload_n h (j := 0) rfl rfl dX3_pushIn_5 ?_
  refine cr_getI h (k := 5) cr_clsX3 (by decide) rfl rfl wf_X3_32 (by decide) rfl dX3_pushIn_6 ?_
  refine cr_icmp_ge h (tgt := 35) (by decide) dX3_pushIn_9 (fun c1 => ?_) (fun c1 => ?_)
  · have hyp := hyp.1 c1
    refine cr_iload_n h (j := 2) rfl rfl dX3_pushIn_35 ?_
    refine cr_iret h rfl rfl rfl dX3_pushIn_36 ?_
    exact hyp
  · have hyp := hyp.2 c1
    refine cr_aload_n h (j := 0) rfl rfl dX3_pushIn_12 ?_
    refine cr_getR h (k := 6) cr_clsX3 (by decide) rfl rfl wf_X3_35 (by decide) rfl rfl dX3_pushIn_13 ?_
    refine cr_iload_n h (j := 3) rfl rfl dX3_pushIn_16 ?_
    refine cs_ild h (by decide) rfl hyp.1 (q := x3.toNatClampNeg) rfl dX3_pushIn_17 ?_
    have hyp := hyp.2
    refine cr_iload_n h (j := 1) rfl rfl dX3_pushIn_18 ?_
    refine cr_icmp_ne h (tgt := 29) (by decide) dX3_pushIn_19 (fun c2 => ?_) (fun c2 => ?_)
    · have hyp := hyp.1 c2
      refine cs_inc h (v := (1 : Int32)) 3 rfl (by decide) (by decide) rfl dX3_pushIn_29 (fun v1 ev1 => ?_)
      have hyp := hyp v1 ev1
      show cr_V Γ 32 [.ref 27, .int x1, .int x2, .int v1] [] I (cr_rf τ) 247
      refine cr_goto h (tgt := 4) (by decide) dX3_pushIn_32 ?_
      exact cr_weak [true, true, true, true] hyp
    · have hyp := hyp.2 c2
      refine cr_aload_n h (j := 0) rfl rfl dX3_pushIn_22 ?_
      refine cr_getR h (k := 7) cr_clsX3 (by decide) rfl rfl wf_X3_38 (by decide) rfl rfl dX3_pushIn_23 ?_
      refine cr_iload_n h (j := 3) rfl rfl dX3_pushIn_26 ?_
      refine cs_ild h (by decide) rfl hyp.1 (q := x3.toNatClampNeg) rfl dX3_pushIn_27 ?_
      have hyp := hyp.2
      refine cs_i_n h 2 rfl (by decide) rfl dX3_pushIn_28 (fun v2 ev2 => ?_)
      have hyp := hyp v2 ev2
      show cr_V Γ 29 [.ref 27, .int x1, .int v2, .int x3] [] I (cr_rf τ) 247
      refine cs_inc h (v := (1 : Int32)) 3 rfl (by decide) (by decide) rfl dX3_pushIn_29 (fun v3 ev3 => ?_)
      have hyp := hyp v3 ev3
      show cr_V Γ 32 [.ref 27, .int x1, .int v2, .int v3] [] I (cr_rf τ) 247
      refine cr_goto h (tgt := 4) (by decide) dX3_pushIn_32 ?_
      exact cr_weak [true, true, true, true] hyp
abbrev T_yX3_pushIn : cr_T := fun vs I R K => ∃ (τ : Nat → Nat) (x1 : Int32), R = cr_rf τ ∧ cr_tau τ ∧ vs = [.ref 27, .int x1] ∧ p_yX3_pushIn τ x1 I ∧ K (some (.int (f_yX3_pushIn τ x1 I))) I (cr_rf τ)
abbrev S_yX3_pushIn : Prop := cr_C yX3_pushIn cX3_pushIn 4 (some .int) (cr_rm0 0 0) 247 247 T_yX3_pushIn
theorem G_yX3_pushIn (H : ∀ (Γ : cr_G) (K : cr_K) (τ : Nat → Nat) (x1 : Int32) (I : cr_I), cr_tau τ → cr_Ok yX3_pushIn cX3_pushIn 4 (some .int) (cr_rm0 0 0) K 247 247 Γ → p_yX3_pushIn τ x1 I → K (some (.int (f_yX3_pushIn τ x1 I))) I (cr_rf τ) → cr_V Γ 0 [.ref 27, .int x1, .null, .null] [] I (cr_rf τ) 247) : cr_C yX3_pushIn cX3_pushIn 4 (some .int) (cr_rm0 0 0) 247 247 T_yX3_pushIn := by
  refine cr_C.of (by decide +kernel) (fun vs I R K hT => ?_) (fun Γ K h vs I R hT => ?_)
  · obtain ⟨τ, x1, rfl, hτ, rfl, hp, hK⟩ := hT
    exact Nat.le_of_ble_eq_true rfl
  · obtain ⟨τ, x1, rfl, hτ, rfl, hp, hK⟩ := hT
    exact H Γ K τ x1 I hτ h hp hK
theorem C_yX3_pushIn : cr_C yX3_pushIn cX3_pushIn 4 (some .int) (cr_rm0 0 0) 247 247 T_yX3_pushIn := G_yX3_pushIn (by
  intro Γ K τ x1 I hτ h hp hK
  obtain ⟨eN, hN⟩ := cr_ofI (B := 8) hp.1 hp.2
  unfold f_yX3_pushIn at hK
  generalize (I 27 5).toNatClampNeg = N at eN hN hK
  refine bk_yX3_pushIn_0 hτ h ?_
  refine cr_loop (fun k => cr_V Γ 4 [.ref 27, .int x1, .int (cr_pushS (I 131) (I 132) x1 k), .int (nI k)] [] I (cr_rf τ) 247) N ?_ ?_ 0 (Nat.zero_le _)
  · refine bk_yX3_pushIn_4 hτ h ⟨fun _ => hK, fun c => absurd ?_ c⟩
    rw [eN]; exact Int32.le_refl _
  · intro k hk ih
    refine bk_yX3_pushIn_4 hτ h ⟨fun c => absurd c ?_, fun _ => ⟨cr_ix (by omega) (by omega), fun c => ?_, fun c => ⟨cr_ix (by omega) (by omega), ?_⟩⟩⟩
    · rw [eN]; exact cr_nle hk (by omega)
    · rw [cr_nc (by omega)] at c
      rintro v rfl
      rw [nI_1]
      simpa only [cr_pushS, if_neg c] using ih
    · rw [cr_nc (by omega)] at c ⊢
      rintro v rfl w rfl
      rw [nI_1]
      simpa only [cr_pushS, if_pos c] using ih)
/-! hills: the least slope of those that bind -/
def cr_slopeS (fr to wt sl : Nat → Int32) (w p : Int32) : Nat → Int32
  | 0 => 40
  | n + 1 => if (fr n).toInt ≤ p.toInt ∧ p.toInt ≤ (to n).toInt ∧ (wt n).toInt < w.toInt then (if sl n < cr_slopeS fr to wt sl w p n then sl n else cr_slopeS fr to wt sl w p n) else cr_slopeS fr to wt sl w p n
def f_yX3_mostSpeed (τ : Nat → Nat) (x1 x2 : Int32) (I : cr_I) : Int32 := cr_slopeS (I 133) (I 134) (I 135) (I 136) x1 x2 (I 27 8).toNatClampNeg
def p_yX3_mostSpeed (τ : Nat → Nat) (x1 x2 : Int32) (I : cr_I) : Prop := 0 ≤ (I 27 8).toInt ∧ (I 27 8).toInt ≤ 2
theorem bk_yX3_mostSpeed_0 {Γ : cr_G} {K : cr_K} {τ : Nat → Nat} {I : cr_I} {x1 : Int32} {x2 : Int32} (hτ : cr_tau τ)  (h : cr_Ok yX3_mostSpeed cX3_mostSpeed 6 (some .int) (cr_rm0 1 21) K 247 247 Γ) (hyp : cr_V Γ 6 [.ref 27, .int x1, .int x2, .int (40 : Int32), .int (0 : Int32), .null] [] I (cr_rf τ) 247) : cr_V Γ 0 [.ref 27, .int x1, .int x2, .null, .null, .null] [] I (cr_rf τ) 247 := by
  refine cr_bipush h (v := (40 : Int32)) (by decide) dX3_mostSpeed_0 ?_
  refine cr_istore_n h (j := 3) rfl (by decide) rfl dX3_mostSpeed_2 ?_
  show cr_V Γ 3 [.ref 27, .int x1, .int x2, .int (40 : Int32), .null, .null] [] I (cr_rf τ) 247
  refine cr_iconst h (v := (0 : Int32)) (by decide) dX3_mostSpeed_3 ?_
  refine cr_istore h (by decide) rfl dX3_mostSpeed_4 ?_
  show cr_V Γ 6 [.ref 27, .int x1, .int x2, .int (40 : Int32), .int (0 : Int32), .null] [] I (cr_rf τ) 247
  exact cr_weak [true, true, true, true, true, false] hyp
theorem bk_yX3_mostSpeed_6 {Γ : cr_G} {K : cr_K} {τ : Nat → Nat} {I : cr_I} {x1 : Int32} {x2 : Int32} {x3 : Int32} {x4 : Int32} (hτ : cr_tau τ)  (h : cr_Ok yX3_mostSpeed cX3_mostSpeed 6 (some .int) (cr_rm0 1 21) K 247 247 Γ) (hyp : ((I 27 8) ≤ x4 → K (some (.int x3)) I (cr_rf τ)) ∧ (¬ (I 27 8) ≤ x4 → ((0 ≤ x4.toInt ∧ x4.toInt < 2) ∧ (x2 < (I 133 x4.toNatClampNeg) → True) ∧ (¬ x2 < (I 133 x4.toNatClampNeg) → ((0 ≤ x4.toInt ∧ x4.toInt < 2) ∧ True)) ∧ (∀ v1 : Int32, v1 = (if x2 < (I 133 x4.toNatClampNeg) then (0 : Int32) else (if (I 134 x4.toNatClampNeg) < x2 then (0 : Int32) else (1 : Int32))) → ((v1 = 0 → (∀ v2 : Int32, v2 = x4 + (1 : Int32) → cr_V Γ 6 [.ref 27, .int x1, .int x2, .int x3, .int v2, .null] [] I (cr_rf τ) 247)) ∧ (¬ v1 = 0 → ((0 ≤ x4.toInt ∧ x4.toInt < 2) ∧ (x1 ≤ (I 135 x4.toNatClampNeg) → (∀ v3 : Int32, v3 = x4 + (1 : Int32) → cr_V Γ 6 [.ref 27, .int x1, .int x2, .int x3, .int v3, .null] [] I (cr_rf τ) 247)) ∧ (¬ x1 ≤ (I 135 x4.toNatClampNeg) → ((0 ≤ x4.toInt ∧ x4.toInt < 2) ∧ (∀ v4 : Int32, v4 = (f_yJ9_min_7cf53 τ x3 (I 136 x4.toNatClampNeg) I) → (∀ v5 : Int32, v5 = x4 + (1 : Int32) → cr_V Γ 6 [.ref 27, .int x1, .int x2, .int v4, .int v5, .null] [] I (cr_rf τ) 247))))))))))) : cr_V Γ 6 [.ref 27, .int x1, .int x2, .int x3, .int x4, .null] [] I (cr_rf τ) 247 := by
  refine cr_iload h rfl dX3_mostSpeed_6 ?_
  refine cr_aload_n h (j := 0) rfl rfl dX3_mostSpeed_8 ?_
  refine cr_getI h (k := 8) cr_clsX3 (by decide) rfl rfl wf_X3_41 (by decide) rfl dX3_mostSpeed_9 ?_
  refine cr_icmp_ge h (tgt := 78) (by decide) dX3_mostSpeed_12 (fun c1 => ?_) (fun c1 => ?_)
  · have hyp := hyp.1 c1
    refine cr_iload_n h (j := 3) rfl rfl dX3_mostSpeed_78 ?_
    refine cr_iret h rfl rfl rfl dX3_mostSpeed_79 ?_
    exact hyp
  · have hyp := hyp.2 c1
    refine cr_iload_n h (j := 2) rfl rfl dX3_mostSpeed_15 ?_
    refine cr_aload_n h (j := 0) rfl rfl dX3_mostSpeed_16 ?_
    refine cr_getR h (k := 9) cr_clsX3 (by decide) rfl rfl wf_X3_44 (by decide) rfl rfl dX3_mostSpeed_17 ?_
    refine cr_iload h rfl dX3_mostSpeed_20 ?_
    refine cs_ild h (by decide) rfl hyp.1 (q := x4.toNatClampNeg) rfl dX3_mostSpeed_22 ?_
    have hyp := hyp.2
    have hsJ1 := hyp.1
    have htJ1 := hyp.2.1
    have hyp := hyp.2.2
    have J1 : cr_V Γ 42 [.ref 27, .int x1, .int x2, .int x3, .int x4, .null] [.int (if x2 < (I 133 x4.toNatClampNeg) then (0 : Int32) else (if (I 134 x4.toNatClampNeg) < x2 then (0 : Int32) else (1 : Int32)))] I (cr_rf τ) 247 := by
      refine cs_i h 5 (by decide) rfl dX3_mostSpeed_42 (fun v1 ev1 => ?_)
      have hyp := hyp v1 ev1
      show cr_V Γ 44 [.ref 27, .int x1, .int x2, .int x3, .int x4, .int v1] [] I (cr_rf τ) 247
      refine cr_iload h rfl dX3_mostSpeed_44 ?_
      refine cr_if_eq h (tgt := 72) (by decide) dX3_mostSpeed_46 (fun c4 => ?_) (fun c4 => ?_)
      · have hyp := hyp.1 c4
        refine cs_inc h (v := (1 : Int32)) 4 rfl (by decide) (by decide) rfl dX3_mostSpeed_72 (fun v2 ev2 => ?_)
        have hyp := hyp v2 ev2
        show cr_V Γ 75 [.ref 27, .int x1, .int x2, .int x3, .int v2, .int v1] [] I (cr_rf τ) 247
        refine cr_goto h (tgt := 6) (by decide) dX3_mostSpeed_75 ?_
        exact cr_weak [true, true, true, true, true, false] hyp
      · have hyp := hyp.2 c4
        refine cr_iload_n h (j := 1) rfl rfl dX3_mostSpeed_49 ?_
        refine cr_aload_n h (j := 0) rfl rfl dX3_mostSpeed_50 ?_
        refine cr_getR h (k := 11) cr_clsX3 (by decide) rfl rfl wf_X3_50 (by decide) rfl rfl dX3_mostSpeed_51 ?_
        refine cr_iload h rfl dX3_mostSpeed_54 ?_
        refine cs_ild h (by decide) rfl hyp.1 (q := x4.toNatClampNeg) rfl dX3_mostSpeed_56 ?_
        have hyp := hyp.2
        refine cr_icmp_le h (tgt := 72) (by decide) dX3_mostSpeed_57 (fun c5 => ?_) (fun c5 => ?_)
        · have hyp := hyp.1 c5
          refine cs_inc h (v := (1 : Int32)) 4 rfl (by decide) (by decide) rfl dX3_mostSpeed_72 (fun v3 ev3 => ?_)
          have hyp := hyp v3 ev3
          show cr_V Γ 75 [.ref 27, .int x1, .int x2, .int x3, .int v3, .int v1] [] I (cr_rf τ) 247
          refine cr_goto h (tgt := 6) (by decide) dX3_mostSpeed_75 ?_
          exact cr_weak [true, true, true, true, true, false] hyp
        · have hyp := hyp.2 c5
          refine cr_iload_n h (j := 3) rfl rfl dX3_mostSpeed_60 ?_
          refine cr_aload_n h (j := 0) rfl rfl dX3_mostSpeed_61 ?_
          refine cr_getR h (k := 12) cr_clsX3 (by decide) rfl rfl wf_X3_53 (by decide) rfl rfl dX3_mostSpeed_62 ?_
          refine cr_iload h rfl dX3_mostSpeed_65 ?_
          refine cs_ild h (by decide) rfl hyp.1 (q := x4.toNatClampNeg) rfl dX3_mostSpeed_67 ?_
          have hyp := hyp.2
          refine cr_callS h C_yJ9_min_7cf53 cZ_yJ9_min_7cf53 wm_X3_68 ws_yJ9_min_7cf53 (cr_rmS (by decide) (by decide)) (As := [.int x3, .int (I 136 x4.toNatClampNeg)]) rfl (Nat.le_of_ble_eq_true rfl) dX3_mostSpeed_68 ⟨τ, x3, (I 136 x4.toNatClampNeg), rfl, hτ, rfl, ?_⟩
          show cr_V Γ 71 [.ref 27, .int x1, .int x2, .int x3, .int x4, .int v1] [.int (f_yJ9_min_7cf53 τ x3 (I 136 x4.toNatClampNeg) I)] I (cr_rf τ) 247
          refine cs_i_n h 3 rfl (by decide) rfl dX3_mostSpeed_71 (fun v4 ev4 => ?_)
          have hyp := hyp v4 ev4
          show cr_V Γ 72 [.ref 27, .int x1, .int x2, .int v4, .int x4, .int v1] [] I (cr_rf τ) 247
          refine cs_inc h (v := (1 : Int32)) 4 rfl (by decide) (by decide) rfl dX3_mostSpeed_72 (fun v5 ev5 => ?_)
          have hyp := hyp v5 ev5
          show cr_V Γ 75 [.ref 27, .int x1, .int x2, .int v4, .int v5, .int v1] [] I (cr_rf τ) 247
          refine cr_goto h (tgt := 6) (by decide) dX3_mostSpeed_75 ?_
          exact cr_weak [true, true, true, true, true, false] hyp
    refine cr_icmp_lt h (tgt := 41) (by decide) dX3_mostSpeed_23 (fun c2 => ?_) (fun c2 => ?_)
    · refine cr_iconst h (v := (0 : Int32)) (by decide) dX3_mostSpeed_41 ?_
      exact cr_ite (by rw [if_pos c2]) J1
    · have hyp := htJ1 c2
      refine cr_iload_n h (j := 2) rfl rfl dX3_mostSpeed_26 ?_
      refine cr_aload_n h (j := 0) rfl rfl dX3_mostSpeed_27 ?_
      refine cr_getR h (k := 10) cr_clsX3 (by decide) rfl rfl wf_X3_47 (by decide) rfl rfl dX3_mostSpeed_28 ?_
      refine cr_iload h rfl dX3_mostSpeed_31 ?_
      refine cs_ild h (by decide) rfl hyp.1 (q := x4.toNatClampNeg) rfl dX3_mostSpeed_33 ?_
      have hyp := hyp.2
      refine cr_icmp_gt h (tgt := 41) (by decide) dX3_mostSpeed_34 (fun c3 => ?_) (fun c3 => ?_)
      · refine cr_iconst h (v := (0 : Int32)) (by decide) dX3_mostSpeed_41 ?_
        exact cr_ite (by rw [if_neg c2, if_pos c3]) J1
      · refine cr_iconst h (v := (1 : Int32)) (by decide) dX3_mostSpeed_37 ?_
        refine cr_goto h (tgt := 42) (by decide) dX3_mostSpeed_38 ?_
        exact cr_ite (by rw [if_neg c2, if_neg c3]) J1
abbrev T_yX3_mostSpeed : cr_T := fun vs I R K => ∃ (τ : Nat → Nat) (x1 : Int32) (x2 : Int32), R = cr_rf τ ∧ cr_tau τ ∧ vs = [.ref 27, .int x1, .int x2] ∧ p_yX3_mostSpeed τ x1 x2 I ∧ K (some (.int (f_yX3_mostSpeed τ x1 x2 I))) I (cr_rf τ)
abbrev S_yX3_mostSpeed : Prop := cr_C yX3_mostSpeed cX3_mostSpeed 6 (some .int) (cr_rm0 1 21) 247 247 T_yX3_mostSpeed
theorem G_yX3_mostSpeed (H : ∀ (Γ : cr_G) (K : cr_K) (τ : Nat → Nat) (x1 : Int32) (x2 : Int32) (I : cr_I), cr_tau τ → cr_Ok yX3_mostSpeed cX3_mostSpeed 6 (some .int) (cr_rm0 1 21) K 247 247 Γ → p_yX3_mostSpeed τ x1 x2 I → K (some (.int (f_yX3_mostSpeed τ x1 x2 I))) I (cr_rf τ) → cr_V Γ 0 [.ref 27, .int x1, .int x2, .null, .null, .null] [] I (cr_rf τ) 247) : cr_C yX3_mostSpeed cX3_mostSpeed 6 (some .int) (cr_rm0 1 21) 247 247 T_yX3_mostSpeed := by
  refine cr_C.of (by decide +kernel) (fun vs I R K hT => ?_) (fun Γ K h vs I R hT => ?_)
  · obtain ⟨τ, x1, x2, rfl, hτ, rfl, hp, hK⟩ := hT
    exact Nat.le_of_ble_eq_true rfl
  · obtain ⟨τ, x1, x2, rfl, hτ, rfl, hp, hK⟩ := hT
    exact H Γ K τ x1 x2 I hτ h hp hK
theorem C_yX3_mostSpeed : cr_C yX3_mostSpeed cX3_mostSpeed 6 (some .int) (cr_rm0 1 21) 247 247 T_yX3_mostSpeed := G_yX3_mostSpeed (by
  intro Γ K τ x1 x2 I hτ h hp hK
  obtain ⟨eN, hN⟩ := cr_ofI (B := 2) hp.1 hp.2
  unfold f_yX3_mostSpeed at hK
  generalize (I 27 8).toNatClampNeg = N at eN hN hK
  refine bk_yX3_mostSpeed_0 hτ h ?_
  refine cr_loop (fun k => cr_V Γ 6 [.ref 27, .int x1, .int x2, .int (cr_slopeS (I 133) (I 134) (I 135) (I 136) x1 x2 k), .int (nI k), .null] [] I (cr_rf τ) 247) N ?_ ?_ 0 (Nat.zero_le _)
  · refine bk_yX3_mostSpeed_6 hτ h ⟨fun _ => hK, fun c => absurd ?_ c⟩
    rw [eN]; exact Int32.le_refl _
  · intro k hk ih
    have hx : (0 : Int) ≤ (nI k).toInt ∧ (nI k).toInt < 2 := cr_ix (by omega) (by omega)
    refine bk_yX3_mostSpeed_6 hτ h ⟨fun c => absurd c ?_, fun _ => ⟨hx, fun _ => trivial, fun _ => ⟨hx, trivial⟩, ?_⟩⟩
    · rw [eN]; exact cr_nle hk (by omega)
    · rw [cr_nc (by omega)]
      intro v ev
      refine ⟨fun c => ?_, fun c => ⟨hx, fun c2 => ?_, fun c2 => ⟨hx, ?_⟩⟩⟩
      · rintro v rfl
        rw [nI_1]
        have hn : ¬ ((I 133 k).toInt ≤ x2.toInt ∧ x2.toInt ≤ (I 134 k).toInt ∧ (I 135 k).toInt < x1.toInt) := by
          rintro ⟨q1, q2, q3⟩
          rw [if_neg (by rw [cr_lt]; omega), if_neg (by rw [cr_lt]; omega)] at ev
          rw [ev] at c
          exact absurd c (by decide)
        simpa only [cr_slopeS, if_neg hn] using ih
      · rintro v rfl
        rw [nI_1]
        have hn : ¬ ((I 133 k).toInt ≤ x2.toInt ∧ x2.toInt ≤ (I 134 k).toInt ∧ (I 135 k).toInt < x1.toInt) := by
          rintro ⟨q1, q2, q3⟩
          rw [cr_le] at c2
          omega
        simpa only [cr_slopeS, if_neg hn] using ih
      · rintro v rfl w rfl
        rw [nI_1]
        have hn : (I 133 k).toInt ≤ x2.toInt ∧ x2.toInt ≤ (I 134 k).toInt ∧ (I 135 k).toInt < x1.toInt := by
          rw [cr_le] at c2
          by_cases d1 : x2 < I 133 k
          · rw [if_pos d1] at ev
            exact absurd ev c
          · rw [if_neg d1] at ev
            by_cases d2 : I 134 k < x2
            · rw [if_pos d2] at ev
              exact absurd ev c
            · rw [cr_lt] at d1 d2
              omega
        simpa only [cr_slopeS, if_pos hn, f_yJ9_min_7cf53] using ih)
/-! a text's line, a table -/
def cr_testS (vals : Nat → Int32) (r n a : Int32) : Bool := if a = 1 then decide (n.toInt < (vals r.toNatClampNeg).toInt) else decide ((vals r.toNatClampNeg).toInt < n.toInt)
def cr_holdS (vals rd bd ab : Nat → Int32) : Nat → Bool
  | 0 => true
  | n + 1 => cr_holdS vals rd bd ab n && cr_testS vals (rd n) (bd n) (ab n)
/-- the first line from l on that holds, of m lines -/
def cr_firstS (hold : Nat → Bool) : Nat → Nat → Option Nat
  | _, 0 => none
  | l, m + 1 => if hold l then some l else cr_firstS hold (l + 1) m
def cr_tholds (b : Nat) (I : cr_I) (l : Nat) : Bool := cr_holdS (I 168) (I (b + 4 + l)) (I (b + 11 + l)) (I (b + 18 + l)) (I (b + 2) l).toNatClampNeg
def f_yX6_holds (τ : Nat → Nat) (b : Nat) (x1 : Int32) (I : cr_I) : Int32 := if cr_tholds b I x1.toNatClampNeg then 1 else 0
/-- what a line needs to be walked -/
def cr_tlok (b : Nat) (I : cr_I) (l : Nat) : Prop := (0 ≤ (I (b + 2) l).toInt ∧ (I (b + 2) l).toInt ≤ 4) ∧ ∀ k, k < (I (b + 2) l).toNatClampNeg → 0 ≤ (I (b + 4 + l) k).toInt ∧ (I (b + 4 + l) k).toInt < 6
def p_yX6_holds (τ : Nat → Nat) (b : Nat) (x1 : Int32) (I : cr_I) : Prop := (0 ≤ x1.toInt ∧ x1.toInt < 6) ∧ cr_tlok b I x1.toNatClampNeg
theorem bk_yX6_holds_0 {Γ : cr_G} {K : cr_K} {τ : Nat → Nat} {I : cr_I} {b : Nat} {x1 : Int32} (hτ : cr_tau τ) (hb : cr_isT b) (h : cr_Ok yX6_holds cX6_holds 7 (some .boolean) (cr_rm0 0 0) K 247 247 Γ) (hyp : cr_V Γ 2 [.ref b, .int x1, .ref 168, .int (0 : Int32), .null, .null, .null] [] I (cr_rf τ) 247) : cr_V Γ 0 [.ref b, .int x1, .ref 168, .null, .null, .null, .null] [] I (cr_rf τ) 247 := by
  refine cr_iconst h (v := (0 : Int32)) (by decide) dX6_holds_0 ?_
  refine cr_istore_n h (j := 3) rfl (by decide) rfl dX6_holds_1 ?_
  show cr_V Γ 2 [.ref b, .int x1, .ref 168, .int (0 : Int32), .null, .null, .null] [] I (cr_rf τ) 247
  exact cr_weak [true, true, true, true, false, false, false] hyp
theorem bk_yX6_holds_2 {Γ : cr_G} {K : cr_K} {τ : Nat → Nat} {I : cr_I} {b : Nat} {x1 : Int32} {x3 : Int32} (hτ : cr_tau τ) (hb : cr_isT b) (h : cr_Ok yX6_holds cX6_holds 7 (some .boolean) (cr_rm0 0 0) K 247 247 Γ) (hyp : (0 ≤ x1.toInt ∧ x1.toInt < 6) ∧ ((I (b + 2) x1.toNatClampNeg) ≤ x3 → K (some (.int (1 : Int32))) I (cr_rf τ)) ∧ (¬ (I (b + 2) x1.toNatClampNeg) ≤ x3 → ((0 ≤ x1.toInt ∧ x1.toInt < 6) ∧ (0 ≤ x3.toInt ∧ x3.toInt < 4) ∧ (0 ≤ (I (b + 3 + 1 + x1.toNatClampNeg) x3.toNatClampNeg).toInt ∧ (I (b + 3 + 1 + x1.toNatClampNeg) x3.toNatClampNeg).toInt < 6) ∧ (∀ v1 : Int32, v1 = (I 168 (I (b + 3 + 1 + x1.toNatClampNeg) x3.toNatClampNeg).toNatClampNeg) → ((0 ≤ x1.toInt ∧ x1.toInt < 6) ∧ (0 ≤ x3.toInt ∧ x3.toInt < 4) ∧ (∀ v2 : Int32, v2 = (I (b + 10 + 1 + x1.toNatClampNeg) x3.toNatClampNeg) → ((0 ≤ x1.toInt ∧ x1.toInt < 6) ∧ (0 ≤ x3.toInt ∧ x3.toInt < 4) ∧ (∀ v3 : Int32, v3 = (if (I (b + 17 + 1 + x1.toNatClampNeg) x3.toNatClampNeg) = (1 : Int32) then (if v1 ≤ v2 then (0 : Int32) else (1 : Int32)) else (if v2 ≤ v1 then (0 : Int32) else (1 : Int32))) → ((¬ v3 = 0 → (∀ v4 : Int32, v4 = x3 + (1 : Int32) → cr_V Γ 2 [.ref b, .int x1, .ref 168, .int v4, .null, .null, .null] [] I (cr_rf τ) 247)) ∧ (v3 = 0 → K (some (.int (0 : Int32))) I (cr_rf τ))))))))))) : cr_V Γ 2 [.ref b, .int x1, .ref 168, .int x3, .null, .null, .null] [] I (cr_rf τ) 247 := by
  refine cr_iload_n h (j := 3) rfl rfl dX6_holds_2 ?_
  refine cr_aload_n h (j := 0) rfl rfl dX6_holds_3 ?_
  refine cr_getR h (k := 2) cr_clsX6 (by decide) rfl rfl wf_X6_19 (by have := (kt_t hb).1; omega) (kt_t hb).2.1 ((kt_t hb).2.2.2.2.2.2.2 τ).2.1 dX6_holds_4 ?_
  refine cr_iload_n h (j := 1) rfl rfl dX6_holds_7 ?_
  refine cs_ild h (by have := (kt_t hb).1; omega) (kt_t hb).2.2.2.1 hyp.1 (q := x1.toNatClampNeg) rfl dX6_holds_8 ?_
  have hyp := hyp.2
  refine cr_icmp_ge h (tgt := 88) (by decide) dX6_holds_9 (fun c1 => ?_) (fun c1 => ?_)
  · have hyp := hyp.1 c1
    refine cr_iconst h (v := (1 : Int32)) (by decide) dX6_holds_88 ?_
    refine cr_iret h rfl (by decide) rfl dX6_holds_89 ?_
    exact hyp
  · have hyp := hyp.2 c1
    refine cr_aload_n h (j := 2) rfl rfl dX6_holds_12 ?_
    refine cr_aload_n h (j := 0) rfl rfl dX6_holds_13 ?_
    refine cr_getR h (k := 3) cr_clsX6 (by decide) rfl rfl wf_X6_24 (by have := (kt_t hb).1; omega) (kt_t hb).2.1 ((kt_t hb).2.2.2.2.2.2.2 τ).2.2.1 dX6_holds_14 ?_
    refine cr_iload_n h (j := 1) rfl rfl dX6_holds_17 ?_
    have hb1 := hyp.1
    have hyp := hyp.2
    refine cr_aald h (by have := (kt_t hb).1; omega) (kt_t hb).2.2.2.2.1 hb1 ((kt_r hb (Or.inl rfl) hb1).2.2 τ) dX6_holds_18 ?_
    refine cr_iload_n h (j := 3) rfl rfl dX6_holds_19 ?_
    refine cs_ild h (kt_r hb (Or.inl rfl) hb1).1 (kt_r hb (Or.inl rfl) hb1).2.1 hyp.1 (q := x3.toNatClampNeg) rfl dX6_holds_20 ?_
    have hyp := hyp.2
    refine cs_ild h (by decide) rfl hyp.1 (q := (I (b + 3 + 1 + x1.toNatClampNeg) x3.toNatClampNeg).toNatClampNeg) rfl dX6_holds_21 ?_
    have hyp := hyp.2
    refine cs_i h 4 (by decide) rfl dX6_holds_22 (fun v1 ev1 => ?_)
    have hyp := hyp v1 ev1
    show cr_V Γ 24 [.ref b, .int x1, .ref 168, .int x3, .int v1, .null, .null] [] I (cr_rf τ) 247
    refine cr_aload_n h (j := 0) rfl rfl dX6_holds_24 ?_
    refine cr_getR h (k := 4) cr_clsX6 (by decide) rfl rfl wf_X6_27 (by have := (kt_t hb).1; omega) (kt_t hb).2.1 ((kt_t hb).2.2.2.2.2.2.2 τ).2.2.2.1 dX6_holds_25 ?_
    refine cr_iload_n h (j := 1) rfl rfl dX6_holds_28 ?_
    have hb2 := hyp.1
    have hyp := hyp.2
    refine cr_aald h (by have := (kt_t hb).1; omega) (kt_t hb).2.2.2.2.2.1 hb2 ((kt_r hb (Or.inr (Or.inl rfl)) hb2).2.2 τ) dX6_holds_29 ?_
    refine cr_iload_n h (j := 3) rfl rfl dX6_holds_30 ?_
    refine cs_ild h (kt_r hb (Or.inr (Or.inl rfl)) hb2).1 (kt_r hb (Or.inr (Or.inl rfl)) hb2).2.1 hyp.1 (q := x3.toNatClampNeg) rfl dX6_holds_31 ?_
    have hyp := hyp.2
    refine cs_i h 5 (by decide) rfl dX6_holds_32 (fun v2 ev2 => ?_)
    have hyp := hyp v2 ev2
    show cr_V Γ 34 [.ref b, .int x1, .ref 168, .int x3, .int v1, .int v2, .null] [] I (cr_rf τ) 247
    refine cr_aload_n h (j := 0) rfl rfl dX6_holds_34 ?_
    refine cr_getR h (k := 5) cr_clsX6 (by decide) rfl rfl wf_X6_30 (by have := (kt_t hb).1; omega) (kt_t hb).2.1 ((kt_t hb).2.2.2.2.2.2.2 τ).2.2.2.2 dX6_holds_35 ?_
    refine cr_iload_n h (j := 1) rfl rfl dX6_holds_38 ?_
    have hb3 := hyp.1
    have hyp := hyp.2
    refine cr_aald h (by have := (kt_t hb).1; omega) (kt_t hb).2.2.2.2.2.2.1 hb3 ((kt_r hb (Or.inr (Or.inr rfl)) hb3).2.2 τ) dX6_holds_39 ?_
    refine cr_iload_n h (j := 3) rfl rfl dX6_holds_40 ?_
    refine cs_ild h (kt_r hb (Or.inr (Or.inr rfl)) hb3).1 (kt_r hb (Or.inr (Or.inr rfl)) hb3).2.1 hyp.1 (q := x3.toNatClampNeg) rfl dX6_holds_41 ?_
    have hyp := hyp.2
    refine cr_iconst h (v := (1 : Int32)) (by decide) dX6_holds_42 ?_
    have J1 : cr_V Γ 73 [.ref b, .int x1, .ref 168, .int x3, .int v1, .int v2, .null] [.int (if (I (b + 17 + 1 + x1.toNatClampNeg) x3.toNatClampNeg) = (1 : Int32) then (if v1 ≤ v2 then (0 : Int32) else (1 : Int32)) else (if v2 ≤ v1 then (0 : Int32) else (1 : Int32)))] I (cr_rf τ) 247 := by
      refine cs_i h 6 (by decide) rfl dX6_holds_73 (fun v3 ev3 => ?_)
      have hyp := hyp v3 ev3
      show cr_V Γ 75 [.ref b, .int x1, .ref 168, .int x3, .int v1, .int v2, .int v3] [] I (cr_rf τ) 247
      refine cr_iload h rfl dX6_holds_75 ?_
      refine cr_if_ne h (tgt := 82) (by decide) dX6_holds_77 (fun c5 => ?_) (fun c5 => ?_)
      · have hyp := hyp.1 c5
        refine cs_inc h (v := (1 : Int32)) 3 rfl (by decide) (by decide) rfl dX6_holds_82 (fun v4 ev4 => ?_)
        have hyp := hyp v4 ev4
        show cr_V Γ 85 [.ref b, .int x1, .ref 168, .int v4, .int v1, .int v2, .int v3] [] I (cr_rf τ) 247
        refine cr_goto h (tgt := 2) (by decide) dX6_holds_85 ?_
        exact cr_weak [true, true, true, true, false, false, false] hyp
      · have hyp := hyp.2 c5
        refine cr_iconst h (v := (0 : Int32)) (by decide) dX6_holds_80 ?_
        refine cr_iret h rfl (by decide) rfl dX6_holds_81 ?_
        exact hyp
    refine cr_icmp_ne h (tgt := 61) (by decide) dX6_holds_43 (fun c2 => ?_) (fun c2 => ?_)
    · refine cr_iload h rfl dX6_holds_61 ?_
      refine cr_iload h rfl dX6_holds_63 ?_
      refine cr_icmp_ge h (tgt := 72) (by decide) dX6_holds_65 (fun c3 => ?_) (fun c3 => ?_)
      · refine cr_iconst h (v := (0 : Int32)) (by decide) dX6_holds_72 ?_
        exact cr_ite (by rw [if_neg c2, if_pos c3]) J1
      · refine cr_iconst h (v := (1 : Int32)) (by decide) dX6_holds_68 ?_
        refine cr_goto h (tgt := 73) (by decide) dX6_holds_69 ?_
        exact cr_ite (by rw [if_neg c2, if_neg c3]) J1
    · refine cr_iload h rfl dX6_holds_46 ?_
      refine cr_iload h rfl dX6_holds_48 ?_
      refine cr_icmp_le h (tgt := 57) (by decide) dX6_holds_50 (fun c4 => ?_) (fun c4 => ?_)
      · refine cr_iconst h (v := (0 : Int32)) (by decide) dX6_holds_57 ?_
        refine cr_goto h (tgt := 73) (by decide) dX6_holds_58 ?_
        exact cr_ite (by rw [if_pos c2, if_pos c4]) J1
      · refine cr_iconst h (v := (1 : Int32)) (by decide) dX6_holds_53 ?_
        refine cr_goto h (tgt := 73) (by decide) dX6_holds_54 ?_
        exact cr_ite (by rw [if_pos c2, if_neg c4]) J1
abbrev T_yX6_holds : cr_T := fun vs I R K => ∃ (τ : Nat → Nat) (b : Nat) (x1 : Int32), R = cr_rf τ ∧ cr_tau τ ∧ vs = [.ref b, .int x1, .ref 168] ∧ (cr_isT b) ∧ p_yX6_holds τ b x1 I ∧ K (some (.int (f_yX6_holds τ b x1 I))) I (cr_rf τ)
abbrev S_yX6_holds : Prop := cr_C yX6_holds cX6_holds 7 (some .boolean) (cr_rm0 0 0) 247 247 T_yX6_holds
theorem G_yX6_holds (H : ∀ (Γ : cr_G) (K : cr_K) (τ : Nat → Nat) (b : Nat) (x1 : Int32) (I : cr_I), cr_tau τ → (cr_isT b) → cr_Ok yX6_holds cX6_holds 7 (some .boolean) (cr_rm0 0 0) K 247 247 Γ → p_yX6_holds τ b x1 I → K (some (.int (f_yX6_holds τ b x1 I))) I (cr_rf τ) → cr_V Γ 0 [.ref b, .int x1, .ref 168, .null, .null, .null, .null] [] I (cr_rf τ) 247) : cr_C yX6_holds cX6_holds 7 (some .boolean) (cr_rm0 0 0) 247 247 T_yX6_holds := by
  refine cr_C.of (by decide +kernel) (fun vs I R K hT => ?_) (fun Γ K h vs I R hT => ?_)
  · obtain ⟨τ, b, x1, rfl, hτ, rfl, hb, hp, hK⟩ := hT
    exact Nat.le_of_ble_eq_true rfl
  · obtain ⟨τ, b, x1, rfl, hτ, rfl, hb, hp, hK⟩ := hT
    exact H Γ K τ b x1 I hτ hb h hp hK
theorem cr_holdS_f {vals rd bd ab : Nat → Int32} {k : Nat} (h : cr_testS vals (rd k) (bd k) (ab k) = false) : ∀ n, k < n → cr_holdS vals rd bd ab n = false
  | 0, hk => absurd hk (Nat.not_lt_zero _)
  | n + 1, hk => by
    rw [cr_holdS]
    by_cases e : k = n
    · subst e
      rw [h, Bool.and_false]
    · rw [cr_holdS_f h n (by omega), Bool.false_and]
theorem C_yX6_holds : cr_C yX6_holds cX6_holds 7 (some .boolean) (cr_rm0 0 0) 247 247 T_yX6_holds := G_yX6_holds (by
  intro Γ K τ b x1 I hτ hb h hp hK
  obtain ⟨hx1, ⟨hc, hr⟩⟩ := hp
  obtain ⟨eN, hN⟩ := cr_ofI (B := 4) hc.1 hc.2
  have e4 : b + 3 + 1 + x1.toNatClampNeg = b + 4 + x1.toNatClampNeg := by omega
  have e11 : b + 10 + 1 + x1.toNatClampNeg = b + 11 + x1.toNatClampNeg := by omega
  have e18 : b + 17 + 1 + x1.toNatClampNeg = b + 18 + x1.toNatClampNeg := by omega
  unfold f_yX6_holds cr_tholds at hK
  generalize hl : x1.toNatClampNeg = l at *
  generalize (I (b + 2) l).toNatClampNeg = N at eN hN hK hr
  refine bk_yX6_holds_0 hτ hb h ?_
  refine cr_loop (fun k => cr_holdS (I 168) (I (b + 4 + l)) (I (b + 11 + l)) (I (b + 18 + l)) k = true → cr_V Γ 2 [.ref b, .int x1, .ref 168, .int (nI k), .null, .null, .null] [] I (cr_rf τ) 247) N ?_ ?_ 0 (Nat.zero_le _) rfl
  · intro hS
    refine bk_yX6_holds_2 hτ hb h ⟨hx1, fun _ => ?_, fun c => absurd ?_ c⟩
    · rw [hS] at hK; exact hK
    · rw [hl, eN]; exact Int32.le_refl _
  · intro k hk ih hS
    have hx : (0 : Int) ≤ (nI k).toInt ∧ (nI k).toInt < 4 := cr_ix (by omega) (by omega)
    refine bk_yX6_holds_2 hτ hb h ⟨hx1, fun c => absurd c ?_, fun _ => ⟨hx1, hx, ?_, ?_⟩⟩
    · rw [hl, eN]; exact cr_nle hk (by omega)
    · rw [cr_nc (by omega), hl, e4]; exact hr k hk
    · rw [cr_nc (by omega), hl, e4, e11, e18]
      intro v1 ev1
      refine ⟨hx1, hx, ?_⟩
      intro v2 ev2
      refine ⟨hx1, hx, ?_⟩
      intro v3 ev3
      have key : v3 = 0 ↔ cr_testS (I 168) (I (b + 4 + l) k) (I (b + 11 + l) k) (I (b + 18 + l) k) = false := by
        rw [ev3, ev1, ev2]
        unfold cr_testS
        by_cases d : I (b + 18 + l) k = 1
        · simp only [if_pos d, decide_eq_false_iff_not]
          split <;> rename_i q <;> rw [cr_le] at q <;> simp <;> omega
        · simp only [if_neg d, decide_eq_false_iff_not]
          split <;> rename_i q <;> rw [cr_le] at q <;> simp <;> omega
      refine ⟨fun c => ?_, fun c => ?_⟩
      · rintro v rfl
        rw [nI_1]
        refine ih ?_
        rw [cr_holdS, hS, Bool.true_and]
        cases ht : cr_testS (I 168) (I (b + 4 + l) k) (I (b + 11 + l) k) (I (b + 18 + l) k) with
        | true => rfl
        | false => exact absurd (key.mpr ht) c
      · rw [cr_holdS_f (key.mp c) N hk] at hK
        exact hK)
theorem nb_yX6_holds {τ : Nat → Nat} {b : Nat} {x1 : Int32} {I : cr_I} : narrow .boolean (.int (f_yX6_holds τ b x1 I)) = .int (f_yX6_holds τ b x1 I) := by
  unfold f_yX6_holds
  split <;> rfl
def cr_wishS (b : Nat) (I : cr_I) (l m : Nat) : Int32 := match cr_firstS (cr_tholds b I) l m with
  | none => 0
  | some l => I (b + 1) l
def f_yX6_wishBy (τ : Nat → Nat) (b : Nat) (I : cr_I) : Int32 := cr_wishS b I 0 (I b 0).toNatClampNeg
def p_yX6_wishBy (τ : Nat → Nat) (b : Nat) (I : cr_I) : Prop := (0 ≤ (I b 0).toInt ∧ (I b 0).toInt ≤ 6) ∧ ∀ l, l < (I b 0).toNatClampNeg → cr_tlok b I l
theorem bk_yX6_wishBy_0 {Γ : cr_G} {K : cr_K} {τ : Nat → Nat} {I : cr_I} {b : Nat} (hτ : cr_tau τ) (hb : cr_isT b) (h : cr_Ok yX6_wishBy cX6_wishBy 3 (some .int) (cr_rm0 1 26) K 247 247 Γ) (hyp : cr_V Γ 2 [.ref b, .ref 168, .int (0 : Int32)] [] I (cr_rf τ) 247) : cr_V Γ 0 [.ref b, .ref 168, .null] [] I (cr_rf τ) 247 := by
  refine cr_iconst h (v := (0 : Int32)) (by decide) dX6_wishBy_0 ?_
  refine cr_istore_n h (j := 2) rfl (by decide) rfl dX6_wishBy_1 ?_
  show cr_V Γ 2 [.ref b, .ref 168, .int (0 : Int32)] [] I (cr_rf τ) 247
  exact cr_weak [true, true, true] hyp
theorem bk_yX6_wishBy_2 {Γ : cr_G} {K : cr_K} {τ : Nat → Nat} {I : cr_I} {b : Nat} {x2 : Int32} (hτ : cr_tau τ) (hb : cr_isT b) (h : cr_Ok yX6_wishBy cX6_wishBy 3 (some .int) (cr_rm0 1 26) K 247 247 Γ) (hyp : ((I b 0) ≤ x2 → K (some (.int (0 : Int32))) I (cr_rf τ)) ∧ (¬ (I b 0) ≤ x2 → (p_yX6_holds τ b x2 I ∧ ((f_yX6_holds τ b x2 I) = 0 → (∀ v1 : Int32, v1 = x2 + (1 : Int32) → cr_V Γ 2 [.ref b, .ref 168, .int v1] [] I (cr_rf τ) 247)) ∧ (¬ (f_yX6_holds τ b x2 I) = 0 → ((0 ≤ x2.toInt ∧ x2.toInt < 6) ∧ K (some (.int (I (b + 1) x2.toNatClampNeg))) I (cr_rf τ)))))) : cr_V Γ 2 [.ref b, .ref 168, .int x2] [] I (cr_rf τ) 247 := by
  refine cr_iload_n h (j := 2) rfl rfl dX6_wishBy_2 ?_
  refine cr_aload_n h (j := 0) rfl rfl dX6_wishBy_3 ?_
  refine cr_getI h (k := 0) cr_clsX6 (by decide) rfl rfl wf_X6_9 (by have := (kt_t hb).1; omega) (kt_t hb).2.1 dX6_wishBy_4 ?_
  refine cr_icmp_ge h (tgt := 32) (by decide) dX6_wishBy_7 (fun c1 => ?_) (fun c1 => ?_)
  · have hyp := hyp.1 c1
    refine cr_iconst h (v := (0 : Int32)) (by decide) dX6_wishBy_32 ?_
    refine cr_iret h rfl rfl rfl dX6_wishBy_33 ?_
    exact hyp
  · have hyp := hyp.2 c1
    refine cr_aload_n h (j := 0) rfl rfl dX6_wishBy_10 ?_
    refine cr_iload_n h (j := 2) rfl rfl dX6_wishBy_11 ?_
    refine cr_aload_n h (j := 1) rfl rfl dX6_wishBy_12 ?_
    refine cr_callV h (c0 := 6) (T0 := TX6) C_yX6_holds cZ_yX6_holds wm_X6_33 wv_yX6_holds we_yX6_holds (by have := (kt_t hb).1; omega) (kt_t hb).2.1 rfl (cr_rmS (by decide) (by decide)) (As := [.int x2, .ref 168]) rfl (Nat.le_of_ble_eq_true rfl) dX6_wishBy_13 ⟨τ, b, x2, rfl, hτ, rfl, hb, hyp.1, ?_⟩
    have hyp := hyp.2
    show cr_V Γ 16 [.ref b, .ref 168, .int x2] [.int (f_yX6_holds τ b x2 I)] I (cr_rf τ) 247
    refine cr_if_eq h (tgt := 26) (by decide) dX6_wishBy_16 (fun c2 => ?_) (fun c2 => ?_)
    · have hyp := hyp.1 c2
      refine cs_inc h (v := (1 : Int32)) 2 rfl (by decide) (by decide) rfl dX6_wishBy_26 (fun v1 ev1 => ?_)
      have hyp := hyp v1 ev1
      show cr_V Γ 29 [.ref b, .ref 168, .int v1] [] I (cr_rf τ) 247
      refine cr_goto h (tgt := 2) (by decide) dX6_wishBy_29 ?_
      exact cr_weak [true, true, true] hyp
    · have hyp := hyp.2 c2
      refine cr_aload_n h (j := 0) rfl rfl dX6_wishBy_19 ?_
      refine cr_getR h (k := 1) cr_clsX6 (by decide) rfl rfl wf_X6_15 (by have := (kt_t hb).1; omega) (kt_t hb).2.1 ((kt_t hb).2.2.2.2.2.2.2 τ).1 dX6_wishBy_20 ?_
      refine cr_iload_n h (j := 2) rfl rfl dX6_wishBy_23 ?_
      refine cs_ild h (by have := (kt_t hb).1; omega) (kt_t hb).2.2.1 hyp.1 (q := x2.toNatClampNeg) rfl dX6_wishBy_24 ?_
      have hyp := hyp.2
      refine cr_iret h rfl rfl rfl dX6_wishBy_25 ?_
      exact hyp
abbrev T_yX6_wishBy : cr_T := fun vs I R K => ∃ (τ : Nat → Nat) (b : Nat), R = cr_rf τ ∧ cr_tau τ ∧ vs = [.ref b, .ref 168] ∧ (cr_isT b) ∧ p_yX6_wishBy τ b I ∧ K (some (.int (f_yX6_wishBy τ b I))) I (cr_rf τ)
abbrev S_yX6_wishBy : Prop := cr_C yX6_wishBy cX6_wishBy 3 (some .int) (cr_rm0 1 26) 247 247 T_yX6_wishBy
theorem G_yX6_wishBy (H : ∀ (Γ : cr_G) (K : cr_K) (τ : Nat → Nat) (b : Nat) (I : cr_I), cr_tau τ → (cr_isT b) → cr_Ok yX6_wishBy cX6_wishBy 3 (some .int) (cr_rm0 1 26) K 247 247 Γ → p_yX6_wishBy τ b I → K (some (.int (f_yX6_wishBy τ b I))) I (cr_rf τ) → cr_V Γ 0 [.ref b, .ref 168, .null] [] I (cr_rf τ) 247) : cr_C yX6_wishBy cX6_wishBy 3 (some .int) (cr_rm0 1 26) 247 247 T_yX6_wishBy := by
  refine cr_C.of (by decide +kernel) (fun vs I R K hT => ?_) (fun Γ K h vs I R hT => ?_)
  · obtain ⟨τ, b, rfl, hτ, rfl, hb, hp, hK⟩ := hT
    exact Nat.le_of_ble_eq_true rfl
  · obtain ⟨τ, b, rfl, hτ, rfl, hb, hp, hK⟩ := hT
    exact H Γ K τ b I hτ hb h hp hK
theorem C_yX6_wishBy : cr_C yX6_wishBy cX6_wishBy 3 (some .int) (cr_rm0 1 26) 247 247 T_yX6_wishBy := G_yX6_wishBy (by
  intro Γ K τ b I hτ hb h hp hK
  obtain ⟨hc, hr⟩ := hp
  obtain ⟨eN, hN⟩ := cr_ofI (B := 6) hc.1 hc.2
  unfold f_yX6_wishBy at hK
  generalize (I b 0).toNatClampNeg = N at eN hN hK hr
  refine bk_yX6_wishBy_0 hτ hb h ?_
  refine cr_loop (fun k => K (some (.int (cr_wishS b I k (N - k)))) I (cr_rf τ) → cr_V Γ 2 [.ref b, .ref 168, .int (nI k)] [] I (cr_rf τ) 247) N ?_ ?_ 0 (Nat.zero_le _) hK
  · intro hK
    rw [Nat.sub_self] at hK
    refine bk_yX6_wishBy_2 hτ hb h ⟨fun _ => hK, fun c => absurd ?_ c⟩
    rw [eN]; exact Int32.le_refl _
  · intro k hk ih hK
    have hx : (0 : Int) ≤ (nI k).toInt ∧ (nI k).toInt < 6 := cr_ix (by omega) (by omega)
    have hs : N - k = (N - (k + 1)) + 1 := by omega
    rw [hs] at hK
    unfold cr_wishS at hK
    rw [cr_firstS] at hK
    refine bk_yX6_wishBy_2 hτ hb h ⟨fun c => absurd c ?_, fun _ => ⟨⟨hx, ?_⟩, fun c => ?_, fun c => ⟨hx, ?_⟩⟩⟩
    · rw [eN]; exact cr_nle hk (by omega)
    · rw [cr_nc (by omega)]; exact hr k hk
    · rintro v rfl
      rw [nI_1]
      unfold f_yX6_holds at c
      rw [cr_nc (by omega)] at c
      by_cases d : cr_tholds b I k = true
      · rw [if_pos d] at c; exact absurd c (by decide)
      · rw [if_neg d] at hK
        exact ih hK
    · unfold f_yX6_holds at c
      rw [cr_nc (by omega)] at c ⊢
      by_cases d : cr_tholds b I k = true
      · rw [if_pos d] at hK
        exact hK
      · rw [if_neg d] at c; exact absurd rfl c)
