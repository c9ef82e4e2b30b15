/-! divisors -/
def cr_gcd (x y : Int32) : Int32 := nI (Nat.gcd x.toInt.natAbs y.toInt.natAbs)
def f_yX9_divisor (τ : Nat → Nat) (x0 x1 : Int32) (I : cr_I) : Int32 := cr_gcd x0 x1
def p_yX9_divisor (τ : Nat → Nat) (x0 x1 : Int32) (I : cr_I) : Prop := -2147483648 < x0.toInt ∧ 0 ≤ x1.toInt
theorem bk_yX9_divisor_0 {Γ : cr_G} {K : cr_K} {τ : Nat → Nat} {I : cr_I} {x0 : Int32} {x1 : Int32} (hτ : cr_tau τ)  (h : cr_Ok yX9_divisor cX9_divisor 5 (some .int) (cr_rm0 0 0) K 247 247 Γ) (hyp : ∀ v1 : Int32, v1 = (if 0 ≤ x0 then x0 else (-x0)) → cr_V Γ 13 [.null, .null, .int v1, .int x1, .null] [] I (cr_rf τ) 247) : cr_V Γ 0 [.int x0, .int x1, .null, .null, .null] [] I (cr_rf τ) 247 := by
  refine cr_iload_n h (j := 0) rfl rfl dX9_divisor_0 ?_
  have J1 : cr_V Γ 10 [.int x0, .int x1, .null, .null, .null] [.int (if 0 ≤ x0 then x0 else (-x0))] I (cr_rf τ) 247 := by
    refine cs_i_n h 2 rfl (by decide) rfl dX9_divisor_10 (fun v1 ev1 => ?_)
    have hyp := hyp v1 ev1
    show cr_V Γ 11 [.int x0, .int x1, .int v1, .null, .null] [] I (cr_rf τ) 247
    refine cr_iload_n h (j := 1) rfl rfl dX9_divisor_11 ?_
    refine cr_istore_n h (j := 3) rfl (by decide) rfl dX9_divisor_12 ?_
    show cr_V Γ 13 [.int x0, .int x1, .int v1, .int x1, .null] [] I (cr_rf τ) 247
    exact cr_weak [false, false, true, true, false] hyp
  refine cr_if_ge h (tgt := 9) (by decide) dX9_divisor_1 (fun c1 => ?_) (fun c1 => ?_)
  · refine cr_iload_n h (j := 0) rfl rfl dX9_divisor_9 ?_
    exact cr_ite (by rw [if_pos c1]) J1
  · refine cr_iload_n h (j := 0) rfl rfl dX9_divisor_4 ?_
    refine cr_ineg h dX9_divisor_5 ?_
    refine cr_goto h (tgt := 10) (by decide) dX9_divisor_6 ?_
    exact cr_ite (by rw [if_neg c1]) J1
theorem bk_yX9_divisor_13 {Γ : cr_G} {K : cr_K} {τ : Nat → Nat} {I : cr_I} {x2 : Int32} {x3 : Int32} (hτ : cr_tau τ)  (h : cr_Ok yX9_divisor cX9_divisor 5 (some .int) (cr_rm0 0 0) K 247 247 Γ) (hyp : (x3 = 0 → K (some (.int x2)) I (cr_rf τ)) ∧ (¬ x3 = 0 → (¬ x3 = 0 ∧ (∀ v2 : Int32, v2 = (x2 - x2 / x3 * x3) → cr_V Γ 13 [.null, .null, .int x3, .int v2, .null] [] I (cr_rf τ) 247)))) : cr_V Γ 13 [.null, .null, .int x2, .int x3, .null] [] I (cr_rf τ) 247 := by
  refine cr_iload_n h (j := 3) rfl rfl dX9_divisor_13 ?_
  refine cr_if_eq h (tgt := 30) (by decide) dX9_divisor_14 (fun c2 => ?_) (fun c2 => ?_)
  · have hyp := hyp.1 c2
    refine cr_iload_n h (j := 2) rfl rfl dX9_divisor_30 ?_
    refine cr_iret h rfl rfl rfl dX9_divisor_31 ?_
    exact hyp
  · have hyp := hyp.2 c2
    refine cr_iload_n h (j := 2) rfl rfl dX9_divisor_17 ?_
    refine cr_iload_n h (j := 3) rfl rfl dX9_divisor_18 ?_
    refine cr_irem h hyp.1 dX9_divisor_19 ?_
    have hyp := hyp.2
    refine cs_i h 4 (by decide) rfl dX9_divisor_20 (fun v2 ev2 => ?_)
    have hyp := hyp v2 ev2
    show cr_V Γ 22 [.null, .null, .int x2, .int x3, .int v2] [] I (cr_rf τ) 247
    refine cr_iload_n h (j := 3) rfl rfl dX9_divisor_22 ?_
    refine cr_istore_n h (j := 2) rfl (by decide) rfl dX9_divisor_23 ?_
    show cr_V Γ 24 [.null, .null, .int x3, .int x3, .int v2] [] I (cr_rf τ) 247
    refine cr_iload h rfl dX9_divisor_24 ?_
    refine cr_istore_n h (j := 3) rfl (by decide) rfl dX9_divisor_26 ?_
    show cr_V Γ 27 [.null, .null, .int x3, .int v2, .int v2] [] I (cr_rf τ) 247
    refine cr_goto h (tgt := 13) (by decide) dX9_divisor_27 ?_
    exact cr_weak [false, false, true, true, false] hyp
abbrev T_yX9_divisor : cr_T := fun vs I R K => ∃ (τ : Nat → Nat) (x0 : Int32) (x1 : Int32), R = cr_rf τ ∧ cr_tau τ ∧ vs = [.int x0, .int x1] ∧ p_yX9_divisor τ x0 x1 I ∧ K (some (.int (f_yX9_divisor τ x0 x1 I))) I (cr_rf τ)
abbrev S_yX9_divisor : Prop := cr_C yX9_divisor cX9_divisor 5 (some .int) (cr_rm0 0 0) 247 247 T_yX9_divisor
theorem G_yX9_divisor (H : ∀ (Γ : cr_G) (K : cr_K) (τ : Nat → Nat) (x0 : Int32) (x1 : Int32) (I : cr_I), cr_tau τ → cr_Ok yX9_divisor cX9_divisor 5 (some .int) (cr_rm0 0 0) K 247 247 Γ → p_yX9_divisor τ x0 x1 I → K (some (.int (f_yX9_divisor τ x0 x1 I))) I (cr_rf τ) → cr_V Γ 0 [.int x0, .int x1, .null, .null, .null] [] I (cr_rf τ) 247) : cr_C yX9_divisor cX9_divisor 5 (some .int) (cr_rm0 0 0) 247 247 T_yX9_divisor := by
  refine cr_C.of (by decide +kernel) (fun vs I R K hT => ?_) (fun Γ K h vs I R hT => ?_)
  · obtain ⟨τ, x0, x1, rfl, hτ, rfl, hp, hK⟩ := hT
    exact Nat.le_of_ble_eq_true rfl
  · obtain ⟨τ, x0, x1, rfl, hτ, rfl, hp, hK⟩ := hT
    exact H Γ K τ x0 x1 I hτ h hp hK
theorem cr_abs {x : Int32} (h : -2147483648 < x.toInt) : (if 0 ≤ x then x else -x) = nI x.toInt.natAbs := by
  have hl := Int32.toInt_lt x
  apply Int32.toInt_inj.mp
  rw [nI_toInt (by omega)]
  split
  · rename_i c
    have : (0 : Int) ≤ x.toInt := by simpa using cr_le.mp c
    omega
  · rename_i c
    have : ¬ (0 : Int) ≤ x.toInt := fun q => c (cr_le.mpr (by simpa using q))
    rw [cr_neg h]
    omega
theorem C_yX9_divisor : cr_C yX9_divisor cX9_divisor 5 (some .int) (cr_rm0 0 0) 247 247 T_yX9_divisor := G_yX9_divisor (by
  intro Γ K τ x0 x1 I hτ h hp hK
  obtain ⟨h0, h1⟩ := hp
  have hl0 := Int32.toInt_lt x0
  have hl1 := Int32.toInt_lt x1
  refine bk_yX9_divisor_0 hτ h ?_
  rw [cr_abs h0]
  rintro v rfl
  have e1 : x1 = nI x1.toInt.natAbs := by
    apply Int32.toInt_inj.mp
    rw [nI_toInt (by omega)]
    omega
  unfold f_yX9_divisor cr_gcd at hK
  rw [e1]
  have ha : x0.toInt.natAbs < 2 ^ 31 := by omega
  have hb : x1.toInt.natAbs < 2 ^ 31 := by omega
  generalize x0.toInt.natAbs = a at *
  generalize x1.toInt.natAbs = b at *
  have key : ∀ (m a b : Nat), b < m → a < 2 ^ 31 → b < 2 ^ 31 → K (some (.int (nI (Nat.gcd a b)))) I (cr_rf τ) → cr_V Γ 13 [.null, .null, .int (nI a), .int (nI b), .null] [] I (cr_rf τ) 247 := by
    intro m
    induction m with
    | zero => intro a b hm; exact absurd hm (Nat.not_lt_zero _)
    | succ m ih =>
      intro a b hm ha hb hK
      refine bk_yX9_divisor_13 hτ h ⟨fun c => ?_, fun c => ⟨c, ?_⟩⟩
      · have hb0 : b = 0 := (nI_eq (b := 0) hb (by decide)).mp c
        subst hb0
        rw [Nat.gcd_zero_right] at hK
        exact hK
      · have hb0 : 0 < b := by
          rcases Nat.eq_zero_or_pos b with q | q
          · subst q; exact absurd rfl c
          · exact q
        rintro v rfl
        rw [pk_rem ha hb0 hb]
        refine ih b (a % b) (Nat.lt_of_lt_of_le (Nat.mod_lt a hb0) (by omega)) hb (Nat.lt_trans (Nat.mod_lt a hb0) hb) ?_
        rw [Nat.gcd_comm, ← Nat.gcd_rec, Nat.gcd_comm]
        exact hK
  exact key (b + 1) a b (by omega) ha hb hK)
theorem cr_rem0 {x : Int32} {d : Nat} (h0 : 0 < d) (hd : d < 2 ^ 31) : x - x / nI d * nI d = 0 ↔ d ∣ x.toInt.natAbs := by
  have hl := Int32.toInt_lt x
  have hg := Int32.le_toInt x
  have hd1 : (nI d).toInt = d := nI_toInt hd
  have hq : (x / nI d).toInt = x.toInt.tdiv d := by
    rw [Int32.toInt_div, hd1]
    have hb : (x.toInt.tdiv d).natAbs ≤ x.toInt.natAbs := by
      rw [Int.natAbs_tdiv]
      exact Nat.div_le_self _ _
    by_cases hx : x.toInt = -2147483648
    · by_cases h1 : d = 1
      · subst h1
        rw [hx]; decide
      · have : (x.toInt.tdiv d).natAbs < x.toInt.natAbs := by
          rw [Int.natAbs_tdiv]
          exact Nat.div_lt_self (by omega) (by simp; omega)
        exact cr_bm (by omega)
    · exact cr_bm (by omega)
  have hm := Int.tmod_add_mul_tdiv x.toInt d
  have hmb : (x.toInt.tmod d).natAbs < d := by
    rw [Int.natAbs_tmod]
    exact Nat.mod_lt _ (by simpa using h0)
  have hsg : x.toInt - x.toInt.tdiv d * d = x.toInt.tmod d := by
    rw [Int.mul_comm]
    omega
  have hmle : (x.toInt.tmod d).natAbs ≤ x.toInt.natAbs := by
    rw [Int.natAbs_tmod]
    exact Nat.mod_le _ _
  have hdle : (x.toInt.tdiv d * d).natAbs ≤ x.toInt.natAbs := by
    rw [Int.natAbs_mul, Int.natAbs_tdiv]
    simp only [Int.natAbs_natCast]
    exact Nat.div_mul_le_self x.toInt.natAbs d
  have hp : (x / nI d * nI d).toInt = x.toInt.tdiv d * d := by
    by_cases hx : x.toInt.tdiv d * d = 2147483648
    · omega
    · rw [cr_mul (by rw [hq, hd1]; omega), hq, hd1]
  have hs : (x - x / nI d * nI d).toInt = x.toInt.tmod d := by
    rw [cr_sub (by rw [hp]; omega), hp, hsg]
  rw [← Int32.toInt_inj, hs]
  show x.toInt.tmod d = 0 ↔ _
  rw [← Int.natAbs_eq_zero, Int.natAbs_tmod]
  simp only [Int.natAbs_natCast]
  exact (Nat.dvd_iff_mod_eq_zero ..).symm
def f_yX5_greatestDivisor (τ : Nat → Nat) (x0 x1 : Int32) (I : cr_I) : Int32 := cr_gcd x0 x1
def p_yX5_greatestDivisor (τ : Nat → Nat) (x0 x1 : Int32) (I : cr_I) : Prop := 0 < x1.toInt ∧ x1.toInt ≤ 1000
theorem bk_yX5_greatestDivisor_0 {Γ : cr_G} {K : cr_K} {τ : Nat → Nat} {I : cr_I} {x0 : Int32} {x1 : Int32} (hτ : cr_tau τ)  (h : cr_Ok yX5_greatestDivisor cX5_greatestDivisor 3 (some .int) (cr_rm0 0 0) K 247 247 Γ) (hyp : cr_V Γ 2 [.int x0, .int x1, .int x1] [] I (cr_rf τ) 247) : cr_V Γ 0 [.int x0, .int x1, .null] [] I (cr_rf τ) 247 := by
  refine cr_iload_n h (j := 1) rfl rfl dX5_greatestDivisor_0 ?_
  refine cr_istore_n h (j := 2) rfl (by decide) rfl dX5_greatestDivisor_1 ?_
  show cr_V Γ 2 [.int x0, .int x1, .int x1] [] I (cr_rf τ) 247
  exact cr_weak [true, true, true] hyp
theorem bk_yX5_greatestDivisor_2 {Γ : cr_G} {K : cr_K} {τ : Nat → Nat} {I : cr_I} {x0 : Int32} {x1 : Int32} {x2 : Int32} (hτ : cr_tau τ)  (h : cr_Ok yX5_greatestDivisor cX5_greatestDivisor 3 (some .int) (cr_rm0 0 0) K 247 247 Γ) (hyp : (x2 ≤ (1 : Int32) → K (some (.int (1 : Int32))) I (cr_rf τ)) ∧ (¬ x2 ≤ (1 : Int32) → (¬ x2 = 0 ∧ (¬ (x1 - x1 / x2 * x2) = 0 → (∀ v1 : Int32, v1 = x2 + (-1 : Int32) → cr_V Γ 2 [.int x0, .int x1, .int v1] [] I (cr_rf τ) 247)) ∧ ((x1 - x1 / x2 * x2) = 0 → (¬ x2 = 0 ∧ (¬ (x0 - x0 / x2 * x2) = 0 → (∀ v2 : Int32, v2 = x2 + (-1 : Int32) → cr_V Γ 2 [.int x0, .int x1, .int v2] [] I (cr_rf τ) 247)) ∧ ((x0 - x0 / x2 * x2) = 0 → K (some (.int x2)) I (cr_rf τ))))))) : cr_V Γ 2 [.int x0, .int x1, .int x2] [] I (cr_rf τ) 247 := by
  refine cr_iload_n h (j := 2) rfl rfl dX5_greatestDivisor_2 ?_
  refine cr_iconst h (v := (1 : Int32)) (by decide) dX5_greatestDivisor_3 ?_
  refine cr_icmp_le h (tgt := 27) (by decide) dX5_greatestDivisor_4 (fun c1 => ?_) (fun c1 => ?_)
  · have hyp := hyp.1 c1
    refine cr_iconst h (v := (1 : Int32)) (by decide) dX5_greatestDivisor_27 ?_
    refine cr_iret h rfl rfl rfl dX5_greatestDivisor_28 ?_
    exact hyp
  · have hyp := hyp.2 c1
    refine cr_iload_n h (j := 1) rfl rfl dX5_greatestDivisor_7 ?_
    refine cr_iload_n h (j := 2) rfl rfl dX5_greatestDivisor_8 ?_
    refine cr_irem h hyp.1 dX5_greatestDivisor_9 ?_
    have hyp := hyp.2
    refine cr_if_ne h (tgt := 21) (by decide) dX5_greatestDivisor_10 (fun c2 => ?_) (fun c2 => ?_)
    · have hyp := hyp.1 c2
      refine cs_inc h (v := (-1 : Int32)) 2 rfl (by decide) (by decide) rfl dX5_greatestDivisor_21 (fun v1 ev1 => ?_)
      have hyp := hyp v1 ev1
      show cr_V Γ 24 [.int x0, .int x1, .int v1] [] I (cr_rf τ) 247
      refine cr_goto h (tgt := 2) (by decide) dX5_greatestDivisor_24 ?_
      exact cr_weak [true, true, true] hyp
    · have hyp := hyp.2 c2
      refine cr_iload_n h (j := 0) rfl rfl dX5_greatestDivisor_13 ?_
      refine cr_iload_n h (j := 2) rfl rfl dX5_greatestDivisor_14 ?_
      refine cr_irem h hyp.1 dX5_greatestDivisor_15 ?_
      have hyp := hyp.2
      refine cr_if_ne h (tgt := 21) (by decide) dX5_greatestDivisor_16 (fun c3 => ?_) (fun c3 => ?_)
      · have hyp := hyp.1 c3
        refine cs_inc h (v := (-1 : Int32)) 2 rfl (by decide) (by decide) rfl dX5_greatestDivisor_21 (fun v2 ev2 => ?_)
        have hyp := hyp v2 ev2
        show cr_V Γ 24 [.int x0, .int x1, .int v2] [] I (cr_rf τ) 247
        refine cr_goto h (tgt := 2) (by decide) dX5_greatestDivisor_24 ?_
        exact cr_weak [true, true, true] hyp
      · have hyp := hyp.2 c3
        refine cr_iload_n h (j := 2) rfl rfl dX5_greatestDivisor_19 ?_
        refine cr_iret h rfl rfl rfl dX5_greatestDivisor_20 ?_
        exact hyp
abbrev T_yX5_greatestDivisor : cr_T := fun vs I R K => ∃ (τ : Nat → Nat) (x0 : Int32) (x1 : Int32), R = cr_rf τ ∧ cr_tau τ ∧ vs = [.int x0, .int x1] ∧ p_yX5_greatestDivisor τ x0 x1 I ∧ K (some (.int (f_yX5_greatestDivisor τ x0 x1 I))) I (cr_rf τ)
abbrev S_yX5_greatestDivisor : Prop := cr_C yX5_greatestDivisor cX5_greatestDivisor 3 (some .int) (cr_rm0 0 0) 247 247 T_yX5_greatestDivisor
theorem G_yX5_greatestDivisor (H : ∀ (Γ : cr_G) (K : cr_K) (τ : Nat → Nat) (x0 : Int32) (x1 : Int32) (I : cr_I), cr_tau τ → cr_Ok yX5_greatestDivisor cX5_greatestDivisor 3 (some .int) (cr_rm0 0 0) K 247 247 Γ → p_yX5_greatestDivisor τ x0 x1 I → K (some (.int (f_yX5_greatestDivisor τ x0 x1 I))) I (cr_rf τ) → cr_V Γ 0 [.int x0, .int x1, .null] [] I (cr_rf τ) 247) : cr_C yX5_greatestDivisor cX5_greatestDivisor 3 (some .int) (cr_rm0 0 0) 247 247 T_yX5_greatestDivisor := by
  refine cr_C.of (by decide +kernel) (fun vs I R K hT => ?_) (fun Γ K h vs I R hT => ?_)
  · obtain ⟨τ, x0, x1, rfl, hτ, rfl, hp, hK⟩ := hT
    exact Nat.le_of_ble_eq_true rfl
  · obtain ⟨τ, x0, x1, rfl, hτ, rfl, hp, hK⟩ := hT
    exact H Γ K τ x0 x1 I hτ h hp hK
theorem C_yX5_greatestDivisor : cr_C yX5_greatestDivisor cX5_greatestDivisor 3 (some .int) (cr_rm0 0 0) 247 247 T_yX5_greatestDivisor := G_yX5_greatestDivisor (by
  intro Γ K τ x0 x1 I hτ h hp hK
  obtain ⟨h0, h1⟩ := hp
  have e1 : x1 = nI x1.toInt.natAbs := by
    apply Int32.toInt_inj.mp
    rw [nI_toInt (by omega)]
    omega
  unfold f_yX5_greatestDivisor cr_gcd at hK
  have hb0 : 0 < x1.toInt.natAbs := by omega
  have hb1 : x1.toInt.natAbs ≤ 1000 := by omega
  refine bk_yX5_greatestDivisor_0 hτ h ?_
  generalize x1.toInt.natAbs = b at *
  subst e1
  have hgb : Nat.gcd x0.toInt.natAbs b ≤ b := Nat.gcd_le_right _ hb0
  have hg0 : 0 < Nat.gcd x0.toInt.natAbs b := Nat.gcd_pos_of_pos_right _ hb0
  generalize hg : Nat.gcd x0.toInt.natAbs b = g at *
  have key : ∀ d, g ≤ d → d ≤ b → cr_V Γ 2 [.int x0, .int (nI b), .int (nI d)] [] I (cr_rf τ) 247 := by
    intro d
    induction d with
    | zero => intro q; omega
    | succ d ih =>
      intro hd hdb
      refine bk_yX5_greatestDivisor_2 hτ h ⟨fun c => ?_, fun c => ?_⟩
      · have hd1 : d + 1 ≤ 1 := (nI_leI (b := 1) (by omega) (by decide)).mp c
        have : g = 1 := by omega
        subst this
        exact hK
      · have hd1 : ¬ d + 1 ≤ 1 := fun q => c ((nI_leI (b := 1) (by omega) (by decide)).mpr q)
        have hn0 : ¬ nI (d + 1) = 0 := nI_ne0 (by omega) (by omega)
        refine ⟨hn0, fun c2 => ?_, fun c2 => ⟨hn0, fun c3 => ?_, fun c3 => ?_⟩⟩
        · rintro v rfl
          rw [pk_m1]
          refine ih ?_ (by omega)
          rcases Nat.lt_or_ge d g with q | q
          · have : g = d + 1 := by omega
            exfalso
            apply c2
            rw [cr_rem0 (by omega) (by omega), nI_toInt (by omega), ← this, ← hg]
            exact Nat.gcd_dvd_right _ _
          · exact q
        · rintro v rfl
          rw [pk_m1]
          refine ih ?_ (by omega)
          rcases Nat.lt_or_ge d g with q | q
          · have : g = d + 1 := by omega
            exfalso
            apply c3
            rw [cr_rem0 (by omega) (by omega), ← this, ← hg]
            exact Nat.gcd_dvd_left _ _
          · exact q
        · rw [cr_rem0 (by omega) (by omega)] at c2 c3
          rw [nI_toInt (by omega)] at c2
          have hdv : d + 1 ∣ g := by
            rw [← hg]
            exact Nat.dvd_gcd c3 (by simpa using c2)
          have : g = d + 1 := by
            have := Nat.le_of_dvd hg0 hdv
            omega
          rw [← this]
          exact hK
  exact key b hgb (Nat.le_refl _))
def f_yX5_above (τ : Nat → Nat) (x1 : Int32) (x2 : Int32) (I : cr_I) : Int32 := (((f_yX5_sumOverOrders τ x1 x2 I)) / (f_yX5_greatestDivisor τ ((f_yX5_sumOverOrders τ x1 x2 I)) (cr_tab 0 x2.toNatClampNeg) I))
def p_yX5_above (τ : Nat → Nat) (x1 : Int32) (x2 : Int32) (I : cr_I) : Prop := p_yX5_sumOverOrders τ x1 x2 I ∧ ∀ v1 : Int32, v1 = (f_yX5_sumOverOrders τ x1 x2 I) → (0 ≤ x2.toInt ∧ x2.toInt < 7) ∧ p_yX5_greatestDivisor τ v1 (cr_tab 0 x2.toNatClampNeg) I ∧ ¬ (f_yX5_greatestDivisor τ v1 (cr_tab 0 x2.toNatClampNeg) I) = 0 ∧ True
abbrev T_yX5_above : cr_T := fun vs I R K => ∃ (τ : Nat → Nat) (x1 : Int32) (x2 : Int32), R = cr_rf τ ∧ cr_tau τ ∧ vs = [.ref 177, .int x1, .int x2] ∧ p_yX5_above τ x1 x2 I ∧ K (some (.int (f_yX5_above τ x1 x2 I))) I (cr_rf τ)
theorem C_yX5_above : cr_C yX5_above cX5_above 4 (some .int) (cr_rm0 2 50) 247 247 T_yX5_above := by
  refine cr_C.of (by decide +kernel) (fun vs I R K hT => ?_) (fun Γ K h vs I R hT => ?_)
  · obtain ⟨τ, x1, x2, rfl, hτ, rfl, hyp, hK⟩ := hT
    exact Nat.le_of_ble_eq_true rfl
  · obtain ⟨τ, x1, x2, rfl, hτ, rfl, hyp, hK⟩ := hT
    show cr_V Γ 0 [.ref 177, .int x1, .int x2, .null] [] I (cr_rf τ) 247
    refine cr_aload_n h (j := 0) rfl rfl dX5_above_0 ?_
    refine cr_iload_n h (j := 1) rfl rfl dX5_above_1 ?_
    refine cr_iload_n h (j := 2) rfl rfl dX5_above_2 ?_
    refine cr_callV h (c0 := 5) (T0 := TX5) C_yX5_sumOverOrders cZ_yX5_sumOverOrders wm_X5_16 wv_yX5_sumOverOrders we_yX5_sumOverOrders (by decide) rfl rfl (cr_rmS (by decide) (by decide)) (As := [.int x1, .int x2]) rfl (Nat.le_of_ble_eq_true rfl) dX5_above_3 ⟨τ, x1, x2, rfl, hτ, rfl, hyp.1, ?_⟩
    have hyp := hyp.2
    show cr_V Γ 6 [.ref 177, .int x1, .int x2, .null] [.int (f_yX5_sumOverOrders τ x1 x2 I)] I (cr_rf τ) 247
    refine cs_i_n h 3 rfl (by decide) rfl dX5_above_6 (fun v1 ev1 => ?_)
    have hyp := hyp v1 ev1
    show cr_V Γ 7 [.ref 177, .int x1, .int x2, .int v1] [] I (cr_rf τ) 247
    refine cr_iload_n h (j := 3) rfl rfl dX5_above_7 ?_
    refine cr_iload_n h (j := 3) rfl rfl dX5_above_8 ?_
    refine cr_getsN h rfl dX5_above_9 ?_
    refine cr_iload_n h (j := 2) rfl rfl dX5_above_12 ?_
    refine cs_sald h (Or.inl ⟨rfl, hyp.1⟩) rfl dX5_above_13 ?_
    have hyp := hyp.2
    refine cr_callS h C_yX5_greatestDivisor cZ_yX5_greatestDivisor wm_X5_24 ws_yX5_greatestDivisor (cr_rmS (by decide) (by decide)) (As := [.int v1, .int (cr_tab 0 x2.toNatClampNeg)]) rfl (Nat.le_of_ble_eq_true rfl) dX5_above_14 ⟨τ, v1, (cr_tab 0 x2.toNatClampNeg), rfl, hτ, rfl, hyp.1, ?_⟩
    have hyp := hyp.2
    show cr_V Γ 17 [.ref 177, .int x1, .int x2, .int v1] [.int (f_yX5_greatestDivisor τ v1 (cr_tab 0 x2.toNatClampNeg) I), .int v1] I (cr_rf τ) 247
    refine cr_idiv h hyp.1 dX5_above_17 ?_
    have hyp := hyp.2
    refine cr_iret h rfl rfl rfl dX5_above_18 ?_
    subst ev1
    rw [f_yX5_above] at hK
    exact hK
def f_yX5_below (τ : Nat → Nat) (x1 : Int32) (x2 : Int32) (I : cr_I) : Int32 := (((cr_tab 0 x2.toNatClampNeg)) / (f_yX5_greatestDivisor τ (f_yX5_sumOverOrders τ x1 x2 I) ((cr_tab 0 x2.toNatClampNeg)) I))
def p_yX5_below (τ : Nat → Nat) (x1 : Int32) (x2 : Int32) (I : cr_I) : Prop := (0 ≤ x2.toInt ∧ x2.toInt < 7) ∧ ∀ v1 : Int32, v1 = (cr_tab 0 x2.toNatClampNeg) → p_yX5_sumOverOrders τ x1 x2 I ∧ p_yX5_greatestDivisor τ (f_yX5_sumOverOrders τ x1 x2 I) v1 I ∧ ¬ (f_yX5_greatestDivisor τ (f_yX5_sumOverOrders τ x1 x2 I) v1 I) = 0 ∧ True
abbrev T_yX5_below : cr_T := fun vs I R K => ∃ (τ : Nat → Nat) (x1 : Int32) (x2 : Int32), R = cr_rf τ ∧ cr_tau τ ∧ vs = [.ref 177, .int x1, .int x2] ∧ p_yX5_below τ x1 x2 I ∧ K (some (.int (f_yX5_below τ x1 x2 I))) I (cr_rf τ)
theorem C_yX5_below : cr_C yX5_below cX5_below 4 (some .int) (cr_rm0 2 50) 247 247 T_yX5_below := by
  refine cr_C.of (by decide +kernel) (fun vs I R K hT => ?_) (fun Γ K h vs I R hT => ?_)
  · obtain ⟨τ, x1, x2, rfl, hτ, rfl, hyp, hK⟩ := hT
    exact Nat.le_of_ble_eq_true rfl
  · obtain ⟨τ, x1, x2, rfl, hτ, rfl, hyp, hK⟩ := hT
    show cr_V Γ 0 [.ref 177, .int x1, .int x2, .null] [] I (cr_rf τ) 247
    refine cr_getsN h rfl dX5_below_0 ?_
    refine cr_iload_n h (j := 2) rfl rfl dX5_below_3 ?_
    refine cs_sald h (Or.inl ⟨rfl, hyp.1⟩) rfl dX5_below_4 ?_
    have hyp := hyp.2
    refine cs_i_n h 3 rfl (by decide) rfl dX5_below_5 (fun v1 ev1 => ?_)
    have hyp := hyp v1 ev1
    show cr_V Γ 6 [.ref 177, .int x1, .int x2, .int v1] [] I (cr_rf τ) 247
    refine cr_iload_n h (j := 3) rfl rfl dX5_below_6 ?_
    refine cr_aload_n h (j := 0) rfl rfl dX5_below_7 ?_
    refine cr_iload_n h (j := 1) rfl rfl dX5_below_8 ?_
    refine cr_iload_n h (j := 2) rfl rfl dX5_below_9 ?_
    refine cr_callV h (c0 := 5) (T0 := TX5) C_yX5_sumOverOrders cZ_yX5_sumOverOrders wm_X5_16 wv_yX5_sumOverOrders we_yX5_sumOverOrders (by decide) rfl rfl (cr_rmS (by decide) (by decide)) (As := [.int x1, .int x2]) rfl (Nat.le_of_ble_eq_true rfl) dX5_below_10 ⟨τ, x1, x2, rfl, hτ, rfl, hyp.1, ?_⟩
    have hyp := hyp.2
    show cr_V Γ 13 [.ref 177, .int x1, .int x2, .int v1] [.int (f_yX5_sumOverOrders τ x1 x2 I), .int v1] I (cr_rf τ) 247
    refine cr_iload_n h (j := 3) rfl rfl dX5_below_13 ?_
    refine cr_callS h C_yX5_greatestDivisor cZ_yX5_greatestDivisor wm_X5_24 ws_yX5_greatestDivisor (cr_rmS (by decide) (by decide)) (As := [.int (f_yX5_sumOverOrders τ x1 x2 I), .int v1]) rfl (Nat.le_of_ble_eq_true rfl) dX5_below_14 ⟨τ, (f_yX5_sumOverOrders τ x1 x2 I), v1, rfl, hτ, rfl, hyp.1, ?_⟩
    have hyp := hyp.2
    show cr_V Γ 17 [.ref 177, .int x1, .int x2, .int v1] [.int (f_yX5_greatestDivisor τ (f_yX5_sumOverOrders τ x1 x2 I) v1 I), .int v1] I (cr_rf τ) 247
    refine cr_idiv h hyp.1 dX5_below_17 ?_
    have hyp := hyp.2
    refine cr_iret h rfl rfl rfl dX5_below_18 ?_
    subst ev1
    rw [f_yX5_below] at hK
    exact hK
