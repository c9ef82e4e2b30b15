/-! what the class's run goes by -/
def cr_cmk (I : cr_I) (i : Nat) : Nat := (I 129 i).toNatClampNeg
def cr_bnd (br pu x : Int32) : Int32 := if -br < (if x < pu then x else pu) then (if x < pu then x else pu) else -br
def cr_wbS (b : Nat) (I : cr_I) (vals : Nat → Int32) : Int32 := match cr_firstS (fun l => cr_holdS vals (I (b + 4 + l)) (I (b + 11 + l)) (I (b + 18 + l)) (I (b + 2) l).toNatClampNeg) 0 (I b 0).toNatClampNeg with
  | none => 0
  | some l => I (b + 1) l
theorem cr_wbS_eq {τ : Nat → Nat} {b : Nat} {I : cr_I} : f_yX6_wishBy τ b I = cr_wbS b I (I 168) := by
  unfold f_yX6_wishBy cr_wishS cr_wbS
  rw [show cr_tholds b I = (fun l => cr_holdS (I 168) (I (b + 4 + l)) (I (b + 11 + l)) (I (b + 18 + l)) (I (b + 2) l).toNatClampNeg) from rfl]
  cases cr_firstS (fun l => cr_holdS (I 168) (I (b + 4 + l)) (I (b + 11 + l)) (I (b + 18 + l)) (I (b + 2) l).toNatClampNeg) 0 (I b 0).toNatClampNeg <;> rfl
theorem cr_bnd_eq {τ : Nat → Nat} {b : Nat} {x : Int32} {I : cr_I} : f_yX2_bounded τ b x I = cr_bnd (I b 1) (I b 2) x := rfl
def cr_cpar (τ : Nat → Nat) (I : cr_I) : cr_par := (cr_cn0 I, I 130 1, fun t => cr_bnd (I (29 + 25 * cr_cmk I 0) 1) (I (29 + 25 * cr_cmk I 0) 2) (cr_pushS (I 131) (I 132) (nI t) (I 27 5).toNatClampNeg), fun i v => if i < cr_cn0 I then cr_bnd (I (29 + 25 * cr_cmk I i) 1) (I (29 + 25 * cr_cmk I i) 2) (cr_wbS (τ (cr_cmk I i)) I v) else 0, fun i => if i < cr_cn0 I then (I (29 + 25 * cr_cmk I i) 3).toNatClampNeg else 0, fun i q => if i < cr_cn0 I then cr_slopeS (I 133) (I 134) (I 135) (I 136) (I (29 + 25 * cr_cmk I i) 0) q (I 27 8).toNatClampNeg else 40, (I 27 13).toNatClampNeg, (I 27 14).toNatClampNeg, (I 27 15).toNatClampNeg, I 27 16)
def cr_mkok (I : cr_I) (m : Nat) : Prop := (1 ≤ (I (29 + 25 * m) 0).toInt ∧ (I (29 + 25 * m) 0).toInt ≤ 40) ∧ (1 ≤ (I (29 + 25 * m) 1).toInt ∧ (I (29 + 25 * m) 1).toInt ≤ 9) ∧ (1 ≤ (I (29 + 25 * m) 2).toInt ∧ (I (29 + 25 * m) 2).toInt ≤ 5) ∧ (0 ≤ (I (29 + 25 * m) 3).toInt ∧ (I (29 + 25 * m) 3).toInt ≤ 3)
def cr_tbok (b : Nat) (I : cr_I) : Prop := (0 ≤ (I b 0).toInt ∧ (I b 0).toInt ≤ 6) ∧ ∀ l, l < (I b 0).toNatClampNeg → cr_tlok b I l
def cr_rok (τ : Nat → Nat) (I : cr_I) : Prop := cr_nok I ∧ cr_sok I ∧ ((0 ≤ (I 27 5).toInt ∧ (I 27 5).toInt ≤ 8) ∧ (0 ≤ (I 27 8).toInt ∧ (I 27 8).toInt ≤ 2)) ∧ (∀ i, i < 6 → 0 ≤ (I 129 i).toInt ∧ (I 129 i).toInt < 4) ∧ (∀ m, m < 4 → cr_mkok I m ∧ cr_tbok (τ m) I) ∧ ((0 ≤ (I 130 1).toInt ∧ (I 130 1).toInt ≤ 40) ∧ (0 ≤ (I 27 16).toInt ∧ (I 27 16).toInt ≤ 40)) ∧ ∀ k, k < (I 27 8).toNatClampNeg → 0 ≤ (I 136 k).toInt ∧ (I 136 k).toInt ≤ 40
theorem cr_slope_b {fr to wt sl : Nat → Int32} {w q : Int32} : ∀ n, (∀ k, k < n → 0 ≤ (sl k).toInt ∧ (sl k).toInt ≤ 40) → 0 ≤ (cr_slopeS fr to wt sl w q n).toInt ∧ (cr_slopeS fr to wt sl w q n).toInt ≤ 40
  | 0, _ => by show 0 ≤ (40 : Int32).toInt ∧ (40 : Int32).toInt ≤ 40; decide
  | n + 1, h => by
    have h1 := cr_slope_b (fr := fr) (to := to) (wt := wt) (sl := sl) (w := w) (q := q) n (fun k hk => h k (by omega))
    have h2 := h n (by omega)
    rw [cr_slopeS]
    split
    · split
      · exact h2
      · exact h1
    · exact h1
theorem cr_bnd_b {br pu x : Int32} (h : 1 ≤ br.toInt ∧ br.toInt ≤ 9) : -9 ≤ (cr_bnd br pu x).toInt := by
  have e : (-br).toInt = -br.toInt := cr_neg (by omega)
  unfold cr_bnd
  by_cases q : -br < (if x < pu then x else pu)
  · rw [if_pos q]
    rw [cr_lt] at q
    omega
  · rw [if_neg q]
    omega
theorem cr_cmk_lt {τ : Nat → Nat} {I : cr_I} (h : cr_rok τ I) {i : Nat} (hi : i < 6) : cr_cmk I i < 4 := by
  have := h.2.2.2.1 i hi
  show (I 129 i).toInt.toNat < 4
  omega
theorem cr_rok.pok {τ : Nat → Nat} {I : cr_I} (h : cr_rok τ I) : cr_pok (cr_cpar τ I) := by
  have h1 := h.1.un
  obtain ⟨hn, hs, ⟨hpu, hhi⟩, hm, hk, ⟨h0, hss⟩, hsl⟩ := h
  have hm0 : cr_cmk I 0 < 4 := cr_cmk_lt ⟨hn, hs, ⟨hpu, hhi⟩, hm, hk, ⟨h0, hss⟩, hsl⟩ (by decide)
  refine ⟨⟨h1.2.1, h1.2.2⟩, h0, fun t => cr_bnd_b (hk _ hm0).1.2.1, fun i q => ?_, ⟨?_, ?_⟩, hss, ?_, fun i => ?_⟩
  · show 0 ≤ (if i < cr_cn0 I then _ else _ : Int32).toInt ∧ (if i < cr_cn0 I then _ else _ : Int32).toInt ≤ 40
    by_cases z : i < cr_cn0 I
    · rw [if_pos z]
      exact cr_slope_b _ hsl
    · rw [if_neg z]
      decide
  · show (I 27 14).toInt.toNat ≤ (I 27 15).toInt.toNat
    have := hs.2.1
    omega
  · show (I 27 15).toInt.toNat ≤ 31
    have := hs.2.2
    omega
  · show (I 27 13).toInt.toNat ≤ 5
    have := hs.1
    omega
  · show (if i < cr_cn0 I then (I (29 + 25 * cr_cmk I i) 3).toNatClampNeg else 0) ≤ 3
    by_cases z : i < cr_cn0 I
    · rw [if_pos z]
      have hmi : cr_cmk I i < 4 := cr_cmk_lt ⟨hn, hs, ⟨hpu, hhi⟩, hm, hk, ⟨h0, hss⟩, hsl⟩ (by omega)
      have := (hk _ hmi).1.2.2.2
      show (I (29 + 25 * cr_cmk I i) 3).toInt.toNat ≤ 3
      omega
    · rw [if_neg z]
      omega
theorem cr_holdS_c {v v' rd bd ab rd' bd' ab' : Nat → Int32} : ∀ n, (∀ k, k < n → rd' k = rd k ∧ bd' k = bd k ∧ ab' k = ab k) → (∀ k, k < n → 0 ≤ (rd k).toInt ∧ (rd k).toInt < 6) → (∀ r, r < 6 → v' r = v r) → cr_holdS v' rd' bd' ab' n = cr_holdS v rd bd ab n
  | 0, _, _, _ => rfl
  | n + 1, h1, h2, h3 => by
    rw [cr_holdS, cr_holdS, cr_holdS_c n (fun k hk => h1 k (by omega)) (fun k hk => h2 k (by omega)) h3]
    obtain ⟨a, b, c⟩ := h1 n (by omega)
    have hr := h2 n (by omega)
    rw [a, b, c]
    unfold cr_testS
    rw [h3 (rd n).toNatClampNeg (by show (rd n).toInt.toNat < 6; omega)]
theorem cr_firstS_c {f g : Nat → Bool} : ∀ m l, (∀ k, l ≤ k → k < l + m → f k = g k) → cr_firstS f l m = cr_firstS g l m
  | 0, l, _ => rfl
  | m + 1, l, h => by
    rw [cr_firstS, cr_firstS, h l (by omega) (by omega), cr_firstS_c m (l + 1) (fun k a b => h k (by omega) (by omega))]
theorem cr_wbS_c {b : Nat} {I J : cr_I} {v v' : Nat → Int32} (ht : cr_tbok b I) (hJ : ∀ c k, b ≤ c → c < b + 24 → J c k = I c k) (hv : ∀ r, r < 6 → v' r = v r) : cr_wbS b J v' = cr_wbS b I v := by
  have h6 : (I b 0).toNatClampNeg ≤ 6 := by have := ht.1; show (I b 0).toInt.toNat ≤ 6; omega
  unfold cr_wbS
  rw [hJ b 0 (by omega) (by omega)]
  have e : cr_firstS (fun l => cr_holdS v' (J (b + 4 + l)) (J (b + 11 + l)) (J (b + 18 + l)) (J (b + 2) l).toNatClampNeg) 0 (I b 0).toNatClampNeg = cr_firstS (fun l => cr_holdS v (I (b + 4 + l)) (I (b + 11 + l)) (I (b + 18 + l)) (I (b + 2) l).toNatClampNeg) 0 (I b 0).toNatClampNeg := by
    refine cr_firstS_c _ _ (fun l _ hl => ?_)
    have htl := ht.2 l (by omega)
    rw [hJ (b + 2) l (by omega) (by omega)]
    exact cr_holdS_c _ (fun k _ => ⟨hJ _ k (by omega) (by omega), hJ _ k (by omega) (by omega), hJ _ k (by omega) (by omega)⟩) htl.2 hv
  rw [e]
  cases cr_firstS (fun l => cr_holdS v (I (b + 4 + l)) (I (b + 11 + l)) (I (b + 18 + l)) (I (b + 2) l).toNatClampNeg) 0 (I b 0).toNatClampNeg with
  | none => rfl
  | some l => exact hJ (b + 1) l (by omega) (by omega)
/-- the state as the memory has it when tick t begins -/
def cr_ms (I : cr_I) (t : Nat) : cr_RS := (fun i => I (139 + i) t, fun i => I (146 + i) t, fun i => I (153 + i) t, I 137 9, fun u i => I (160 + i) u)
def cr_Ppa (t b k : Nat) : Prop := (b = 137 ∧ (k = 6 ∨ k = 7 ∨ k = 9)) ∨ (139 ≤ b ∧ b ≤ 158 ∧ k = t + 1) ∨ (160 ≤ b ∧ b ≤ 167 ∧ k = t) ∨ b = 168
def p_yX4_pass (τ : Nat → Nat) (x2 x3 x4 : Int32) (I : cr_I) : Prop := cr_rok τ I ∧ ((0 ≤ x2.toInt ∧ x2.toInt ≤ 31) ∧ (0 ≤ x3.toInt ∧ x3.toInt ≤ 4)) ∧ (∀ i, i < cr_cn0 I → 0 ≤ (I (139 + i) x2.toNatClampNeg).toInt ∧ (I (139 + i) x2.toNatClampNeg).toInt ≤ 40) ∧ ∀ u, u < x2.toNatClampNeg → -9 ≤ (I 160 u).toInt
def cr_qp (p : cr_par) (dl : Nat) (lost : Int32) (t n : Nat) (I J : cr_I) : Prop := cr_F (cr_Ppa t) I J ∧ (∀ i, i < n → J (139 + i) (t + 1) = cr_S1 p dl lost t (cr_ms I t) i ∧ (1 ≤ i → J (146 + i) (t + 1) = cr_G1 p dl lost t (cr_ms I t) i) ∧ J (153 + i) (t + 1) = cr_P1 p dl lost t (cr_ms I t) i ∧ J (160 + i) t = cr_Wt p dl lost t (cr_ms I t) i) ∧ J 137 9 = cr_X1 p dl lost t (cr_ms I t) ∧ (J 166 t = cr_Ht dl lost t (cr_ms I t) ∧ J 167 t = cr_Ot dl lost t) ∧ (J 137 6, J 137 7) = (if I 137 6 = -1 then (match cr_firstS (cr_tcc p t (cr_stp p dl lost t (cr_ms I t))) 1 (n - 1) with | some i => (nI t, nI i) | none => (I 137 6, I 137 7)) else (I 137 6, I 137 7))
def q_yX4_pass (τ : Nat → Nat) (x2 x3 x4 : Int32) (I J : cr_I) : Prop := cr_qp (cr_cpar τ I) (cr_dl x3) x4 x2.toNatClampNeg (cr_cn0 I) I J
theorem bk_yX4_pass_0 {Γ : cr_G} {K : cr_K} {τ : Nat → Nat} {I : cr_I} {x2 : Int32} {x3 : Int32} {x4 : Int32} (hτ : cr_tau τ)  (h : cr_Ok yX4_pass cX4_pass 7 none (cr_rm0 3 73) K 247 247 Γ) (hyp : (¬ x2 = (I 27 14) → (p_yX4_hear τ x2 x3 x4 I ∧ (∀ (J1 : cr_I), q_yX4_hear τ x2 x3 x4 I J1 → (p_yX3_makeOfLorry τ (0 : Int32) J1 ∧ p_yX3_pushIn τ x2 J1 ∧ (0 ≤ x2.toInt ∧ x2.toInt < 32) ∧ (∀ J2 : cr_I, J2 = cr_up J1 160 x2.toNatClampNeg (f_yX2_bounded τ (f_yX3_makeOfLorry τ (0 : Int32) J1) (f_yX3_pushIn τ x2 J1) J1) → cr_V Γ 46 [.ref 137, .ref 27, .int x2, .null, .null, .int (1 : Int32), .null] [] J2 (cr_rf τ) 247))))) ∧ (x2 = (I 27 14) → (t_yX4_meetStranger τ x2 I (fun (J3 : cr_I) => p_yX4_hear τ x2 x3 x4 J3 ∧ (∀ (J4 : cr_I), q_yX4_hear τ x2 x3 x4 J3 J4 → (p_yX3_makeOfLorry τ (0 : Int32) J4 ∧ p_yX3_pushIn τ x2 J4 ∧ (0 ≤ x2.toInt ∧ x2.toInt < 32) ∧ (∀ J5 : cr_I, J5 = cr_up J4 160 x2.toNatClampNeg (f_yX2_bounded τ (f_yX3_makeOfLorry τ (0 : Int32) J4) (f_yX3_pushIn τ x2 J4) J4) → cr_V Γ 46 [.ref 137, .ref 27, .int x2, .null, .null, .int (1 : Int32), .null] [] J5 (cr_rf τ) 247))))))) : cr_V Γ 0 [.ref 137, .ref 27, .int x2, .int x3, .int x4, .null, .null] [] I (cr_rf τ) 247 := by
  refine cr_iload_n h (j := 2) rfl rfl dX4_pass_0 ?_
  refine cr_aload_n h (j := 1) rfl rfl dX4_pass_1 ?_
  refine cr_getI h (k := 14) cr_clsX3 (by decide) rfl rfl wf_X4_86 (by decide) rfl dX4_pass_2 ?_
  refine cr_icmp_ne h (tgt := 14) (by decide) dX4_pass_5 (fun c1 => ?_) (fun c1 => ?_)
  · have hyp := hyp.1 c1
    refine cr_aload_n h (j := 0) rfl rfl dX4_pass_14 ?_
    refine cr_iload_n h (j := 2) rfl rfl dX4_pass_15 ?_
    refine cr_iload_n h (j := 3) rfl rfl dX4_pass_16 ?_
    refine cr_iload h rfl dX4_pass_17 ?_
    refine cr_callV h (c0 := 4) (T0 := TX4) C_yX4_hear cZ_yX4_hear wm_X4_92 wv_yX4_hear we_yX4_hear (by decide) rfl rfl (cr_rmS (by decide) (by decide)) (As := [.int x2, .int x3, .int x4]) rfl (Nat.le_of_ble_eq_true rfl) dX4_pass_19 ⟨τ, x2, x3, x4, rfl, hτ, rfl, hyp.1, fun J1 q1 => ?_⟩
    have hyp := hyp.2 J1 q1
    show cr_V Γ 22 [.ref 137, .ref 27, .int x2, .int x3, .int x4, .null, .null] [] J1 (cr_rf τ) 247
    refine cr_aload_n h (j := 0) rfl rfl dX4_pass_22 ?_
    refine cr_getR h (k := 3) cr_clsX4 (by decide) rfl rfl wf_X4_22 (by decide) rfl rfl dX4_pass_23 ?_
    refine cr_iconst h (v := (0 : Int32)) (by decide) dX4_pass_26 ?_
    refine cr_aald h (by decide) rfl (by decide) rfl dX4_pass_27 ?_
    refine cr_iload_n h (j := 2) rfl rfl dX4_pass_28 ?_
    refine cr_aload_n h (j := 1) rfl rfl dX4_pass_29 ?_
    refine cr_iconst h (v := (0 : Int32)) (by decide) dX4_pass_30 ?_
    have hp1 := hyp.1
    refine cr_callV h (c0 := 3) (T0 := TX3) C_yX3_makeOfLorry cZ_yX3_makeOfLorry wm_X4_74 wv_yX3_makeOfLorry we_yX3_makeOfLorry (by decide) rfl rfl (cr_rmS (by decide) (by decide)) (As := [.int (0 : Int32)]) rfl (Nat.le_of_ble_eq_true rfl) dX4_pass_31 ⟨τ, (0 : Int32), rfl, hτ, rfl, hyp.1, ?_⟩
    have hyp := hyp.2
    show cr_V Γ 34 [.ref 137, .ref 27, .int x2, .int x3, .int x4, .null, .null] [.ref (f_yX3_makeOfLorry τ (0 : Int32) J1), .int x2, .ref 160] J1 (cr_rf τ) 247
    refine cr_aload_n h (j := 1) rfl rfl dX4_pass_34 ?_
    refine cr_iload_n h (j := 2) rfl rfl dX4_pass_35 ?_
    refine cr_callV h (c0 := 3) (T0 := TX3) C_yX3_pushIn cZ_yX3_pushIn wm_X4_96 wv_yX3_pushIn we_yX3_pushIn (by decide) rfl rfl (cr_rmS (by decide) (by decide)) (As := [.int x2]) rfl (Nat.le_of_ble_eq_true rfl) dX4_pass_36 ⟨τ, x2, rfl, hτ, rfl, hyp.1, ?_⟩
    have hyp := hyp.2
    show cr_V Γ 39 [.ref 137, .ref 27, .int x2, .int x3, .int x4, .null, .null] [.int (f_yX3_pushIn τ x2 J1), .ref (f_yX3_makeOfLorry τ (0 : Int32) J1), .int x2, .ref 160] J1 (cr_rf τ) 247
    refine cr_callV h (c0 := 2) (T0 := TX2) C_yX2_bounded cZ_yX2_bounded wm_X4_99 wv_yX2_bounded we_yX2_bounded (mo_ok hp1).1 (mo_ok hp1).2.1 rfl (cr_rmS (by decide) (by decide)) (As := [.int (f_yX3_pushIn τ x2 J1)]) rfl (Nat.le_of_ble_eq_true rfl) dX4_pass_39 ⟨τ, (f_yX3_makeOfLorry τ (0 : Int32) J1), (f_yX3_pushIn τ x2 J1), rfl, hτ, rfl, ⟨(mo_ok hp1).1, (mo_ok hp1).2.1⟩, ?_⟩
    show cr_V Γ 42 [.ref 137, .ref 27, .int x2, .int x3, .int x4, .null, .null] [.int (f_yX2_bounded τ (f_yX3_makeOfLorry τ (0 : Int32) J1) (f_yX3_pushIn τ x2 J1) J1), .int x2, .ref 160] J1 (cr_rf τ) 247
    refine cs_ist h (by decide) (by decide) rfl hyp.1 (q := x2.toNatClampNeg) rfl dX4_pass_42 (fun J2 eJ2 => ?_)
    have hyp := hyp.2 J2 eJ2
    refine cr_iconst h (v := (1 : Int32)) (by decide) dX4_pass_43 ?_
    refine cr_istore h (by decide) rfl dX4_pass_44 ?_
    show cr_V Γ 46 [.ref 137, .ref 27, .int x2, .int x3, .int x4, .int (1 : Int32), .null] [] J2 (cr_rf τ) 247
    exact cr_weak [true, true, true, false, false, true, false] hyp
  · have hyp := hyp.2 c1
    refine cr_aload_n h (j := 0) rfl rfl dX4_pass_8 ?_
    refine cr_aload_n h (j := 1) rfl rfl dX4_pass_9 ?_
    refine cr_iload_n h (j := 2) rfl rfl dX4_pass_10 ?_
    refine cr_callV h (c0 := 4) (T0 := TX4) C_yX4_meetStranger cZ_yX4_meetStranger wm_X4_89 wv_yX4_meetStranger we_yX4_meetStranger (by decide) rfl rfl (cr_rmS (by decide) (by decide)) (As := [.ref 27, .int x2]) rfl (Nat.le_of_ble_eq_true rfl) dX4_pass_11 ⟨τ, x2, _, rfl, hτ, rfl, hyp, fun J3 hyp => ?_⟩
    show cr_V Γ 14 [.ref 137, .ref 27, .int x2, .int x3, .int x4, .null, .null] [] J3 (cr_rf τ) 247
    refine cr_aload_n h (j := 0) rfl rfl dX4_pass_14 ?_
    refine cr_iload_n h (j := 2) rfl rfl dX4_pass_15 ?_
    refine cr_iload_n h (j := 3) rfl rfl dX4_pass_16 ?_
    refine cr_iload h rfl dX4_pass_17 ?_
    refine cr_callV h (c0 := 4) (T0 := TX4) C_yX4_hear cZ_yX4_hear wm_X4_92 wv_yX4_hear we_yX4_hear (by decide) rfl rfl (cr_rmS (by decide) (by decide)) (As := [.int x2, .int x3, .int x4]) rfl (Nat.le_of_ble_eq_true rfl) dX4_pass_19 ⟨τ, x2, x3, x4, rfl, hτ, rfl, hyp.1, fun J4 q2 => ?_⟩
    have hyp := hyp.2 J4 q2
    show cr_V Γ 22 [.ref 137, .ref 27, .int x2, .int x3, .int x4, .null, .null] [] J4 (cr_rf τ) 247
    refine cr_aload_n h (j := 0) rfl rfl dX4_pass_22 ?_
    refine cr_getR h (k := 3) cr_clsX4 (by decide) rfl rfl wf_X4_22 (by decide) rfl rfl dX4_pass_23 ?_
    refine cr_iconst h (v := (0 : Int32)) (by decide) dX4_pass_26 ?_
    refine cr_aald h (by decide) rfl (by decide) rfl dX4_pass_27 ?_
    refine cr_iload_n h (j := 2) rfl rfl dX4_pass_28 ?_
    refine cr_aload_n h (j := 1) rfl rfl dX4_pass_29 ?_
    refine cr_iconst h (v := (0 : Int32)) (by decide) dX4_pass_30 ?_
    have hp2 := hyp.1
    refine cr_callV h (c0 := 3) (T0 := TX3) C_yX3_makeOfLorry cZ_yX3_makeOfLorry wm_X4_74 wv_yX3_makeOfLorry we_yX3_makeOfLorry (by decide) rfl rfl (cr_rmS (by decide) (by decide)) (As := [.int (0 : Int32)]) rfl (Nat.le_of_ble_eq_true rfl) dX4_pass_31 ⟨τ, (0 : Int32), rfl, hτ, rfl, hyp.1, ?_⟩
    have hyp := hyp.2
    show cr_V Γ 34 [.ref 137, .ref 27, .int x2, .int x3, .int x4, .null, .null] [.ref (f_yX3_makeOfLorry τ (0 : Int32) J4), .int x2, .ref 160] J4 (cr_rf τ) 247
    refine cr_aload_n h (j := 1) rfl rfl dX4_pass_34 ?_
    refine cr_iload_n h (j := 2) rfl rfl dX4_pass_35 ?_
    refine cr_callV h (c0 := 3) (T0 := TX3) C_yX3_pushIn cZ_yX3_pushIn wm_X4_96 wv_yX3_pushIn we_yX3_pushIn (by decide) rfl rfl (cr_rmS (by decide) (by decide)) (As := [.int x2]) rfl (Nat.le_of_ble_eq_true rfl) dX4_pass_36 ⟨τ, x2, rfl, hτ, rfl, hyp.1, ?_⟩
    have hyp := hyp.2
    show cr_V Γ 39 [.ref 137, .ref 27, .int x2, .int x3, .int x4, .null, .null] [.int (f_yX3_pushIn τ x2 J4), .ref (f_yX3_makeOfLorry τ (0 : Int32) J4), .int x2, .ref 160] J4 (cr_rf τ) 247
    refine cr_callV h (c0 := 2) (T0 := TX2) C_yX2_bounded cZ_yX2_bounded wm_X4_99 wv_yX2_bounded we_yX2_bounded (mo_ok hp2).1 (mo_ok hp2).2.1 rfl (cr_rmS (by decide) (by decide)) (As := [.int (f_yX3_pushIn τ x2 J4)]) rfl (Nat.le_of_ble_eq_true rfl) dX4_pass_39 ⟨τ, (f_yX3_makeOfLorry τ (0 : Int32) J4), (f_yX3_pushIn τ x2 J4), rfl, hτ, rfl, ⟨(mo_ok hp2).1, (mo_ok hp2).2.1⟩, ?_⟩
    show cr_V Γ 42 [.ref 137, .ref 27, .int x2, .int x3, .int x4, .null, .null] [.int (f_yX2_bounded τ (f_yX3_makeOfLorry τ (0 : Int32) J4) (f_yX3_pushIn τ x2 J4) J4), .int x2, .ref 160] J4 (cr_rf τ) 247
    refine cs_ist h (by decide) (by decide) rfl hyp.1 (q := x2.toNatClampNeg) rfl dX4_pass_42 (fun J5 eJ5 => ?_)
    have hyp := hyp.2 J5 eJ5
    refine cr_iconst h (v := (1 : Int32)) (by decide) dX4_pass_43 ?_
    refine cr_istore h (by decide) rfl dX4_pass_44 ?_
    show cr_V Γ 46 [.ref 137, .ref 27, .int x2, .int x3, .int x4, .int (1 : Int32), .null] [] J5 (cr_rf τ) 247
    exact cr_weak [true, true, true, false, false, true, false] hyp
theorem bk_yX4_pass_46 {Γ : cr_G} {K : cr_K} {τ : Nat → Nat} {I : cr_I} {x2 : Int32} {x5 : Int32} (hτ : cr_tau τ)  (h : cr_Ok yX4_pass cX4_pass 7 none (cr_rm0 3 73) K 247 247 Γ) (hyp : ((I 27 1) ≤ x5 → cr_V Γ 106 [.ref 137, .ref 27, .int x2, .null, .null, .int (0 : Int32), .null] [] I (cr_rf τ) 247) ∧ (¬ (I 27 1) ≤ x5 → (t_yX4_read τ x5 x2 I (fun (J6 : cr_I) => p_yX3_makeOfLorry τ x5 J6 ∧ (0 ≤ x5.toInt ∧ x5.toInt < 6) ∧ p_yX6_wishBy τ (τ (J6 129 x5.toNatClampNeg).toNatClampNeg) J6 ∧ (0 ≤ x2.toInt ∧ x2.toInt < 32) ∧ (∀ J7 : cr_I, J7 = cr_up J6 (160 + x5.toNatClampNeg) x2.toNatClampNeg (f_yX2_bounded τ (f_yX3_makeOfLorry τ x5 J6) (f_yX6_wishBy τ (τ (J6 129 x5.toNatClampNeg).toNatClampNeg) J6) J6) → (∀ v1 : Int32, v1 = x5 + (1 : Int32) → cr_V Γ 46 [.ref 137, .ref 27, .int x2, .null, .null, .int v1, .null] [] J7 (cr_rf τ) 247)))))) : cr_V Γ 46 [.ref 137, .ref 27, .int x2, .null, .null, .int x5, .null] [] I (cr_rf τ) 247 := by
  refine cr_iload h rfl dX4_pass_46 ?_
  refine cr_aload_n h (j := 1) rfl rfl dX4_pass_48 ?_
  refine cr_getI h (k := 1) cr_clsX3 (by decide) rfl rfl wf_X4_69 (by decide) rfl dX4_pass_49 ?_
  refine cr_icmp_ge h (tgt := 103) (by decide) dX4_pass_52 (fun c2 => ?_) (fun c2 => ?_)
  · have hyp := hyp.1 c2
    refine cr_iconst h (v := (0 : Int32)) (by decide) dX4_pass_103 ?_
    refine cr_istore h (by decide) rfl dX4_pass_104 ?_
    show cr_V Γ 106 [.ref 137, .ref 27, .int x2, .null, .null, .int (0 : Int32), .null] [] I (cr_rf τ) 247
    exact cr_weak [true, true, true, false, false, true, false] hyp
  · have hyp := hyp.2 c2
    refine cr_aload_n h (j := 0) rfl rfl dX4_pass_55 ?_
    refine cr_aload_n h (j := 1) rfl rfl dX4_pass_56 ?_
    refine cr_iload h rfl dX4_pass_57 ?_
    refine cr_iload_n h (j := 2) rfl rfl dX4_pass_59 ?_
    refine cr_callV h (c0 := 4) (T0 := TX4) C_yX4_read cZ_yX4_read wm_X4_102 wv_yX4_read we_yX4_read (by decide) rfl rfl (cr_rmS (by decide) (by decide)) (As := [.ref 27, .int x5, .int x2]) rfl (Nat.le_of_ble_eq_true rfl) dX4_pass_60 ⟨τ, x5, x2, _, rfl, hτ, rfl, hyp, fun J6 hyp => ?_⟩
    show cr_V Γ 63 [.ref 137, .ref 27, .int x2, .null, .null, .int x5, .null] [] J6 (cr_rf τ) 247
    refine cr_aload_n h (j := 1) rfl rfl dX4_pass_63 ?_
    refine cr_iload h rfl dX4_pass_64 ?_
    have hp3 := hyp.1
    refine cr_callV h (c0 := 3) (T0 := TX3) C_yX3_makeOfLorry cZ_yX3_makeOfLorry wm_X4_74 wv_yX3_makeOfLorry we_yX3_makeOfLorry (by decide) rfl rfl (cr_rmS (by decide) (by decide)) (As := [.int x5]) rfl (Nat.le_of_ble_eq_true rfl) dX4_pass_66 ⟨τ, x5, rfl, hτ, rfl, hyp.1, ?_⟩
    have hyp := hyp.2
    show cr_V Γ 69 [.ref 137, .ref 27, .int x2, .null, .null, .int x5, .null] [.ref (f_yX3_makeOfLorry τ x5 J6)] J6 (cr_rf τ) 247
    refine cr_astore h (by decide) rfl dX4_pass_69 ?_
    show cr_V Γ 71 [.ref 137, .ref 27, .int x2, .null, .null, .int x5, .ref (f_yX3_makeOfLorry τ x5 J6)] [] J6 (cr_rf τ) 247
    refine cr_aload_n h (j := 0) rfl rfl dX4_pass_71 ?_
    refine cr_getR h (k := 3) cr_clsX4 (by decide) rfl rfl wf_X4_22 (by decide) rfl rfl dX4_pass_72 ?_
    refine cr_iload h rfl dX4_pass_75 ?_
    have hb3 := hyp.1
    have hyp := hyp.2
    refine cr_aald h (by decide) rfl hb3 ((kr_159 hb3).2.2 τ) dX4_pass_77 ?_
    refine cr_iload_n h (j := 2) rfl rfl dX4_pass_78 ?_
    refine cr_aload h rfl dX4_pass_79 ?_
    refine cr_aload h rfl dX4_pass_81 ?_
    refine cr_getR h (k := 4) cr_clsX2 (by decide) rfl rfl wf_X4_106 (mo_ok hp3).1 (mo_ok hp3).2.1 ((mo_ok hp3).2.2.1 τ) dX4_pass_83 ?_
    refine cr_aload_n h (j := 0) rfl rfl dX4_pass_86 ?_
    refine cr_getR h (k := 8) cr_clsX4 (by decide) rfl rfl wf_X4_39 (by decide) rfl rfl dX4_pass_87 ?_
    refine cr_callV h (c0 := 6) (T0 := TX6) C_yX6_wishBy cZ_yX6_wishBy wm_X4_110 wv_yX6_wishBy we_yX6_wishBy (by have := (kt_t (hτ.1 (J6 129 x5.toNatClampNeg).toNatClampNeg (by have := (mo_ok hp3).2.2.2; omega))).1; omega) (kt_t (hτ.1 (J6 129 x5.toNatClampNeg).toNatClampNeg (by have := (mo_ok hp3).2.2.2; omega))).2.1 rfl (cr_rmS (by decide) (by decide)) (As := [.ref 168]) rfl (Nat.le_of_ble_eq_true rfl) dX4_pass_90 ⟨τ, (τ (J6 129 x5.toNatClampNeg).toNatClampNeg), rfl, hτ, rfl, (hτ.1 (J6 129 x5.toNatClampNeg).toNatClampNeg (by have := (mo_ok hp3).2.2.2; omega)), hyp.1, ?_⟩
    have hyp := hyp.2
    show cr_V Γ 93 [.ref 137, .ref 27, .int x2, .null, .null, .int x5, .ref (f_yX3_makeOfLorry τ x5 J6)] [.int (f_yX6_wishBy τ (τ (J6 129 x5.toNatClampNeg).toNatClampNeg) J6), .ref (f_yX3_makeOfLorry τ x5 J6), .int x2, .ref (160 + x5.toNatClampNeg)] J6 (cr_rf τ) 247
    refine cr_callV h (c0 := 2) (T0 := TX2) C_yX2_bounded cZ_yX2_bounded wm_X4_99 wv_yX2_bounded we_yX2_bounded (mo_ok hp3).1 (mo_ok hp3).2.1 rfl (cr_rmS (by decide) (by decide)) (As := [.int (f_yX6_wishBy τ (τ (J6 129 x5.toNatClampNeg).toNatClampNeg) J6)]) rfl (Nat.le_of_ble_eq_true rfl) dX4_pass_93 ⟨τ, (f_yX3_makeOfLorry τ x5 J6), (f_yX6_wishBy τ (τ (J6 129 x5.toNatClampNeg).toNatClampNeg) J6), rfl, hτ, rfl, ⟨(mo_ok hp3).1, (mo_ok hp3).2.1⟩, ?_⟩
    show cr_V Γ 96 [.ref 137, .ref 27, .int x2, .null, .null, .int x5, .ref (f_yX3_makeOfLorry τ x5 J6)] [.int (f_yX2_bounded τ (f_yX3_makeOfLorry τ x5 J6) (f_yX6_wishBy τ (τ (J6 129 x5.toNatClampNeg).toNatClampNeg) J6) J6), .int x2, .ref (160 + x5.toNatClampNeg)] J6 (cr_rf τ) 247
    refine cs_ist h (kr_159 hb3).1 (by decide) (kr_159 hb3).2.1 hyp.1 (q := x2.toNatClampNeg) rfl dX4_pass_96 (fun J7 eJ7 => ?_)
    have hyp := hyp.2 J7 eJ7
    refine cs_inc h (v := (1 : Int32)) 5 rfl (by decide) (by decide) rfl dX4_pass_97 (fun v1 ev1 => ?_)
    have hyp := hyp v1 ev1
    show cr_V Γ 100 [.ref 137, .ref 27, .int x2, .null, .null, .int v1, .ref (f_yX3_makeOfLorry τ x5 J6)] [] J7 (cr_rf τ) 247
    refine cr_goto h (tgt := 46) (by decide) dX4_pass_100 ?_
    exact cr_weak [true, true, true, false, false, true, false] hyp
theorem bk_yX4_pass_106 {Γ : cr_G} {K : cr_K} {τ : Nat → Nat} {I : cr_I} {x2 : Int32} {x5 : Int32} (hτ : cr_tau τ)  (h : cr_Ok yX4_pass cX4_pass 7 none (cr_rm0 3 73) K 247 247 Γ) (hyp : ((I 27 1) ≤ x5 → (p_yX4_go τ x2 I ∧ (∀ (J8 : cr_I), q_yX4_go τ x2 I J8 → (p_yX4_noteTouch τ x2 J8 ∧ (∀ (J9 : cr_I), q_yX4_noteTouch τ x2 J8 J9 → K none J9 (cr_rf τ)))))) ∧ (¬ (I 27 1) ≤ x5 → ((0 ≤ x5.toInt ∧ x5.toInt < 6) ∧ p_yX4_speedBehind τ x5 x2 I ∧ (0 ≤ (x2 + (1 : Int32)).toInt ∧ (x2 + (1 : Int32)).toInt < 33) ∧ (∀ J10 : cr_I, J10 = cr_up I (139 + x5.toNatClampNeg) ((x2 + (1 : Int32)).toNatClampNeg) (f_yX4_speedBehind τ x5 x2 I) → (∀ v2 : Int32, v2 = x5 + (1 : Int32) → cr_V Γ 106 [.ref 137, .ref 27, .int x2, .null, .null, .int v2, .null] [] J10 (cr_rf τ) 247))))) : cr_V Γ 106 [.ref 137, .ref 27, .int x2, .null, .null, .int x5, .null] [] I (cr_rf τ) 247 := by
  refine cr_iload h rfl dX4_pass_106 ?_
  refine cr_aload_n h (j := 1) rfl rfl dX4_pass_108 ?_
  refine cr_getI h (k := 1) cr_clsX3 (by decide) rfl rfl wf_X4_69 (by decide) rfl dX4_pass_109 ?_
  refine cr_icmp_ge h (tgt := 140) (by decide) dX4_pass_112 (fun c3 => ?_) (fun c3 => ?_)
  · have hyp := hyp.1 c3
    refine cr_aload_n h (j := 0) rfl rfl dX4_pass_140 ?_
    refine cr_aload_n h (j := 1) rfl rfl dX4_pass_141 ?_
    refine cr_iload_n h (j := 2) rfl rfl dX4_pass_142 ?_
    refine cr_callV h (c0 := 4) (T0 := TX4) C_yX4_go cZ_yX4_go wm_X4_120 wv_yX4_go we_yX4_go (by decide) rfl rfl (cr_rmS (by decide) (by decide)) (As := [.ref 27, .int x2]) rfl (Nat.le_of_ble_eq_true rfl) dX4_pass_143 ⟨τ, x2, rfl, hτ, rfl, hyp.1, fun J8 q3 => ?_⟩
    have hyp := hyp.2 J8 q3
    show cr_V Γ 146 [.ref 137, .ref 27, .int x2, .null, .null, .int x5, .null] [] J8 (cr_rf τ) 247
    refine cr_aload_n h (j := 0) rfl rfl dX4_pass_146 ?_
    refine cr_aload_n h (j := 1) rfl rfl dX4_pass_147 ?_
    refine cr_iload_n h (j := 2) rfl rfl dX4_pass_148 ?_
    refine cr_callV h (c0 := 4) (T0 := TX4) C_yX4_noteTouch cZ_yX4_noteTouch wm_X4_123 wv_yX4_noteTouch we_yX4_noteTouch (by decide) rfl rfl (cr_rmS (by decide) (by decide)) (As := [.ref 27, .int x2]) rfl (Nat.le_of_ble_eq_true rfl) dX4_pass_149 ⟨τ, x2, rfl, hτ, rfl, hyp.1, fun J9 q4 => ?_⟩
    have hyp := hyp.2 J9 q4
    show cr_V Γ 152 [.ref 137, .ref 27, .int x2, .null, .null, .int x5, .null] [] J9 (cr_rf τ) 247
    refine cr_vret h rfl rfl dX4_pass_152 ?_
    exact hyp
  · have hyp := hyp.2 c3
    refine cr_aload_n h (j := 0) rfl rfl dX4_pass_115 ?_
    refine cr_getR h (k := 0) cr_clsX4 (by decide) rfl rfl wf_X4_11 (by decide) rfl rfl dX4_pass_116 ?_
    refine cr_iload h rfl dX4_pass_119 ?_
    have hb4 := hyp.1
    have hyp := hyp.2
    refine cr_aald h (by decide) rfl hb4 ((kr_138 hb4).2.2 τ) dX4_pass_121 ?_
    refine cr_iload_n h (j := 2) rfl rfl dX4_pass_122 ?_
    refine cr_iconst h (v := (1 : Int32)) (by decide) dX4_pass_123 ?_
    refine cr_iadd h dX4_pass_124 ?_
    refine cr_aload_n h (j := 0) rfl rfl dX4_pass_125 ?_
    refine cr_aload_n h (j := 1) rfl rfl dX4_pass_126 ?_
    refine cr_iload h rfl dX4_pass_127 ?_
    refine cr_iload_n h (j := 2) rfl rfl dX4_pass_129 ?_
    refine cr_callV h (c0 := 4) (T0 := TX4) C_yX4_speedBehind cZ_yX4_speedBehind wm_X4_116 wv_yX4_speedBehind we_yX4_speedBehind (by decide) rfl rfl (cr_rmS (by decide) (by decide)) (As := [.ref 27, .int x5, .int x2]) rfl (Nat.le_of_ble_eq_true rfl) dX4_pass_130 ⟨τ, x5, x2, rfl, hτ, rfl, hyp.1, ?_⟩
    have hyp := hyp.2
    show cr_V Γ 133 [.ref 137, .ref 27, .int x2, .null, .null, .int x5, .null] [.int (f_yX4_speedBehind τ x5 x2 I), .int (x2 + (1 : Int32)), .ref (139 + x5.toNatClampNeg)] I (cr_rf τ) 247
    refine cs_ist h (kr_138 hb4).1 (by decide) (kr_138 hb4).2.1 hyp.1 (q := (x2 + (1 : Int32)).toNatClampNeg) rfl dX4_pass_133 (fun J10 eJ10 => ?_)
    have hyp := hyp.2 J10 eJ10
    refine cs_inc h (v := (1 : Int32)) 5 rfl (by decide) (by decide) rfl dX4_pass_134 (fun v2 ev2 => ?_)
    have hyp := hyp v2 ev2
    show cr_V Γ 137 [.ref 137, .ref 27, .int x2, .null, .null, .int v2, .null] [] J10 (cr_rf τ) 247
    refine cr_goto h (tgt := 106) (by decide) dX4_pass_137 ?_
    exact cr_weak [true, true, true, false, false, true, false] hyp
abbrev T_yX4_pass : cr_T := fun vs I R K => ∃ (τ : Nat → Nat) (x2 : Int32) (x3 : Int32) (x4 : Int32), R = cr_rf τ ∧ cr_tau τ ∧ vs = [.ref 137, .ref 27, .int x2, .int x3, .int x4] ∧ p_yX4_pass τ x2 x3 x4 I ∧ ∀ J, q_yX4_pass τ x2 x3 x4 I J → K none J (cr_rf τ)
abbrev S_yX4_pass : Prop := cr_C yX4_pass cX4_pass 7 none (cr_rm0 3 73) 247 247 T_yX4_pass
theorem G_yX4_pass (H : ∀ (Γ : cr_G) (K : cr_K) (τ : Nat → Nat) (x2 : Int32) (x3 : Int32) (x4 : Int32) (I : cr_I), cr_tau τ → cr_Ok yX4_pass cX4_pass 7 none (cr_rm0 3 73) K 247 247 Γ → p_yX4_pass τ x2 x3 x4 I → (∀ J, q_yX4_pass τ x2 x3 x4 I J → K none J (cr_rf τ)) → cr_V Γ 0 [.ref 137, .ref 27, .int x2, .int x3, .int x4, .null, .null] [] I (cr_rf τ) 247) : cr_C yX4_pass cX4_pass 7 none (cr_rm0 3 73) 247 247 T_yX4_pass := by
  refine cr_C.of (by decide +kernel) (fun vs I R K hT => ?_) (fun Γ K h vs I R hT => ?_)
  · obtain ⟨τ, x2, x3, x4, rfl, hτ, rfl, hp, hK⟩ := hT
    exact Nat.le_of_ble_eq_true rfl
  · obtain ⟨τ, x2, x3, x4, rfl, hτ, rfl, hp, hK⟩ := hT
    exact H Γ K τ x2 x3 x4 I hτ h hp hK
theorem cr_mx0 {a b : Int32} (ha : 0 ≤ a.toInt ∧ a.toInt ≤ 40) (hb : 0 ≤ b.toInt ∧ b.toInt ≤ 40) : (if 0 < a - b then a - b else 0) = if b < a then a - b else 0 := by
  have e : (a - b).toInt = a.toInt - b.toInt := cr_sub (by omega)
  have z : (0 : Int32).toInt = 0 := rfl
  by_cases q : b < a
  · rw [if_pos q, if_pos (by rw [cr_lt] at q ⊢; omega)]
  · rw [if_neg q, if_neg (by rw [cr_lt] at q ⊢; omega)]
theorem cr_mx1 {a : Int32} (ha : -9 ≤ a.toInt) : (if 0 < -a then -a else 0) = if a < 0 then -a else 0 := by
  have e : (-a).toInt = -a.toInt := cr_neg (by omega)
  have z : (0 : Int32).toInt = 0 := rfl
  by_cases q : a < 0
  · rw [if_pos q, if_pos (by rw [cr_lt] at q ⊢; omega)]
  · rw [if_neg q, if_neg (by rw [cr_lt] at q ⊢; omega)]
theorem cr_last_lt {lost : Int32} {s : Nat} : ∀ m, cr_last lost m = some s → s < m
  | 0, h => by cases (show (none : Option Nat) = some s from h)
  | m + 1, h => by
    rw [cr_last] at h
    by_cases q : cr_bit lost (nI m) = 0
    · rw [if_pos q] at h
      cases h
      omega
    · rw [if_neg q] at h
      have := cr_last_lt m h
      omega
theorem C_yX4_pass : S_yX4_pass := G_yX4_pass (by
  intro Γ K τ x2 x3 x4 I hτ h hp hK
  obtain ⟨hok, ⟨⟨h20, h21⟩, h30, h31⟩, hsp, hwb⟩ := hp
  have hpok := hok.pok
  have hn0 := hok.1.un
  obtain ⟨e2, ht⟩ := cr_ofI (B := 31) h20 h21
  have hs := hok.2.1
  have hmk : ∀ i, i < 6 → cr_cmk I i < 4 := fun i hi => cr_cmk_lt hok hi
  unfold q_yX4_pass at hK
  generalize hpe : cr_cpar τ I = pp at *
  have hpn : pn pp = cr_cn0 I := by rw [← hpe]; rfl
  have hpL : pL pp = (I 27 13).toNatClampNeg := by rw [← hpe]; rfl
  have hpfr : pfr pp = (I 27 14).toNatClampNeg := by rw [← hpe]; rfl
  have hpto : pto pp = (I 27 15).toNatClampNeg := by rw [← hpe]; rfl
  have hpss : pss pp = I 27 16 := by rw [← hpe]; rfl
  have hppw : ∀ t, ppw pp t = cr_bnd (I (29 + 25 * cr_cmk I 0) 1) (I (29 + 25 * cr_cmk I 0) 2) (cr_pushS (I 131) (I 132) (nI t) (I 27 5).toNatClampNeg) := fun t => by rw [← hpe]; rfl
  have hpwb : ∀ i v, i < cr_cn0 I → pwb pp i v = cr_bnd (I (29 + 25 * cr_cmk I i) 1) (I (29 + 25 * cr_cmk I i) 2) (cr_wbS (τ (cr_cmk I i)) I v) := fun i v hi => by rw [← hpe]; exact if_pos hi
  have hpft : ∀ i, i < cr_cn0 I → pft pp i = (I (29 + 25 * cr_cmk I i) 3).toNatClampNeg := fun i hi => by rw [← hpe]; exact if_pos hi
  have hpsl : ∀ i q, i < cr_cn0 I → psl pp i q = cr_slopeS (I 133) (I 134) (I 135) (I 136) (I (29 + 25 * cr_cmk I i) 0) q (I 27 8).toNatClampNeg := fun i q hi => by rw [← hpe]; exact if_pos hi
  generalize hdl : cr_dl x3 = dl at *
  generalize hne : cr_cn0 I = n at *
  obtain ⟨eN, h1, h6⟩ := hn0
  generalize htt : x2.toNatClampNeg = t at *
  have hxt : (0 : Int) ≤ (nI t).toInt ∧ (nI t).toInt < 33 := cr_ix (by omega) (by omega)
  have hxt2 : (0 : Int) ≤ (nI t).toInt ∧ (nI t).toInt < 32 := cr_ix (by omega) (by omega)
  have hxt1 : (0 : Int) ≤ (nI (t + 1)).toInt ∧ (nI (t + 1)).toInt < 33 := cr_ix (by omega) (by omega)
  have hL5 : (I 27 13).toNatClampNeg ≤ 5 := by have := hs.1; show (I 27 13).toInt.toNat ≤ 5; omega
  generalize hse : cr_ms I t = s at *
  have sS : ∀ i, rS s i = I (139 + i) t := fun i => by rw [← hse]; rfl
  have sG : ∀ i, rG s i = I (146 + i) t := fun i => by rw [← hse]; rfl
  have sP : ∀ i, rP s i = I (153 + i) t := fun i => by rw [← hse]; rfl
  have sX : rX s = I 137 9 := by rw [← hse]; rfl
  have sW : ∀ u i, rW s u i = I (160 + i) u := fun u i => by rw [← hse]; rfl
  -- what the frame keeps
  have fr : ∀ {M : cr_I}, cr_F (cr_Ppa t) I M → (∀ b k, b < 137 → M b k = I b k) := fun hf b k hb => hf b k (by unfold cr_Ppa; omega)
  have frn : ∀ {M : cr_I}, cr_F (cr_Ppa t) I M → cr_nok M ∧ cr_sok M ∧ cr_cn0 M = n := fun hf => ⟨by unfold cr_nok; rw [fr hf 27 1 (by omega)]; exact hok.1, by unfold cr_sok; rw [fr hf 27 13 (by omega), fr hf 27 14 (by omega), fr hf 27 15 (by omega)]; exact hs, by rw [← hne]; unfold cr_cn0; rw [fr hf 27 1 (by omega)]⟩
  have frh : ∀ {M : cr_I}, cr_F (cr_Ppa t) I M → ∀ i u, cr_hsP M i u = cr_strS pp i u := fun hf i u => by
    unfold cr_hsP cr_strS
    rw [fr hf 27 13 (by omega), fr hf 27 14 (by omega), fr hf 27 15 (by omega), hpL, hpfr, hpto]
  -- 106: speeds, going on, touches
  have fin : ∀ M : cr_I, cr_F (cr_Ppa t) I M → M 137 9 = cr_sgm pp t s → M 166 t = cr_Ht dl x4 t s → M 167 t = cr_Ot dl x4 t → M 137 6 = I 137 6 → M 137 7 = I 137 7 → (∀ i, i < n → M (160 + i) t = cr_Wt pp dl x4 t s i) → cr_V Γ 106 [.ref 137, .ref 27, .int (nI t), .null, .null, .int (0 : Int32), .null] [] M (cr_rf τ) 247 := by
    intro M0 hf0 hX0 hH0 hO0 h60 h70 hW0
    refine cr_loop (fun i => ∀ M, cr_F (cr_Ppa t) I M → (∀ b k, ¬ (139 ≤ b ∧ b ≤ 144 ∧ k = t + 1) → M b k = M0 b k) → (∀ j, j < i → M (139 + j) (t + 1) = cr_S1 pp dl x4 t s j) → cr_V Γ 106 [.ref 137, .ref 27, .int (nI t), .null, .null, .int (nI i), .null] [] M (cr_rf τ) 247) n ?_ ?_ 0 (Nat.zero_le _) M0 hf0 (fun _ _ _ => rfl) (fun j hj => absurd hj (Nat.not_lt_zero _))
    · intro M hf hM hS
      obtain ⟨mn, ms, mc⟩ := frn hf
      refine bk_yX4_pass_106 hτ h ⟨fun _ => ⟨⟨mn, ms, by rw [cr_nt (by omega)]; omega⟩, fun J8 hq => ?_⟩, fun z => absurd ?_ z⟩
      · unfold q_yX4_go at hq
        simp only [cr_nc (show t < 100000 by omega), mc, fr hf 27 13 (by omega), fr hf 27 16 (by omega), frh hf] at hq
        obtain ⟨g1, g2, g3, g4⟩ := hq
        have hf8 : cr_F (cr_Ppa t) I J8 := hf.tr (g4.wd (fun b k z => by unfold cr_PG at z; unfold cr_Ppa; omega))
        obtain ⟨n8, s8, c8⟩ := frn hf8
        refine ⟨⟨n8, s8, by rw [cr_nt (by omega)]; omega⟩, fun J9 hq9 => ?_⟩
        unfold q_yX4_noteTouch at hq9
        rw [cr_nc (show t < 100000 by omega), c8] at hq9
        have k9 : J8 137 9 = cr_X1 pp dl x4 t s := by
          rw [g3, hM 137 9 (by omega), hX0]
          unfold cr_X1
          simp only [hpL, hpn, hpss]
          by_cases z : cr_strS pp (I 27 13).toNatClampNeg t ∧ (I 27 13).toNatClampNeg < n
          · rw [if_pos z, if_pos z, hS _ z.2]
          · rw [if_neg z, if_neg z]
        have kP : ∀ i, i < n → J8 (153 + i) (t + 1) = cr_P1 pp dl x4 t s i := fun i hi => by
          rw [g1 i hi, hS i hi, hf (153 + i) t (by unfold cr_Ppa; omega)]
          unfold cr_P1
          rw [sP]
        have kG : ∀ i, 1 ≤ i → i < n → J8 (146 + i) (t + 1) = cr_G1 pp dl x4 t s i := fun i hi1 hi => by
          rw [g2 i hi1 hi, hS i hi, hS (i - 1) (by omega), hf (146 + i) t (by unfold cr_Ppa; omega)]
          unfold cr_G1
          rw [sG]
        have kS : ∀ i, i < n → J8 (139 + i) (t + 1) = cr_S1 pp dl x4 t s i := fun i hi => by
          rw [g4 (139 + i) (t + 1) (by unfold cr_PG; omega)]
          exact hS i hi
        have kW : ∀ i, i < n → J8 (160 + i) t = cr_Wt pp dl x4 t s i := fun i hi => by
          rw [g4 (160 + i) t (by unfold cr_PG; omega), hM (160 + i) t (by omega)]
          exact hW0 i hi
        have k6 : J8 137 6 = I 137 6 := by rw [g4 137 6 (by unfold cr_PG; omega), hM 137 6 (by omega)]; exact h60
        have k7 : J8 137 7 = I 137 7 := by rw [g4 137 7 (by unfold cr_PG; omega), hM 137 7 (by omega)]; exact h70
        have kH : J8 166 t = cr_Ht dl x4 t s := by rw [g4 166 t (by unfold cr_PG; omega), hM 166 t (by omega)]; exact hH0
        have kO : J8 167 t = cr_Ot dl x4 t := by rw [g4 167 t (by unfold cr_PG; omega), hM 167 t (by omega)]; exact hO0
        have kF : cr_firstS (cr_ctc J8 t) 1 (n - 1) = cr_firstS (cr_tcc pp t (cr_stp pp dl x4 t s)) 1 (n - 1) := by
          refine cr_firstS_c _ _ (fun i hi1 hi => ?_)
          unfold cr_ctc cr_tcc
          rw [kG i hi1 (by omega), k9]
          simp only [frh hf8]
          rfl
        rw [kF, k6] at hq9
        refine hK _ ?_
        unfold cr_qp
        rw [hse]
        by_cases z : I 137 6 = -1
        · rw [if_pos z] at hq9 ⊢
          cases hfi : cr_firstS (cr_tcc pp t (cr_stp pp dl x4 t s)) 1 (n - 1) with
          | none =>
            rw [hfi] at hq9
            have hq9 : J9 = J8 := hq9
            rw [hq9]
            refine ⟨hf8, fun i hi => ⟨kS i hi, fun hi1 => kG i hi1 hi, kP i hi, kW i hi⟩, k9, ⟨kH, kO⟩, ?_⟩
            show (J8 137 6, J8 137 7) = (I 137 6, I 137 7)
            rw [k6, k7]
          | some l =>
            rw [hfi] at hq9
            have hq9 : J9 = cr_up (cr_up J8 137 6 (nI t)) 137 7 (nI l) := hq9
            rw [hq9]
            have o : ∀ b k, b ≠ 137 → cr_up (cr_up J8 137 6 (nI t)) 137 7 (nI l) b k = J8 b k := fun b k hb => by rw [cr_up_b hb, cr_up_b hb]
            refine ⟨(hf8.up (by unfold cr_Ppa; omega)).up (by unfold cr_Ppa; omega), fun i hi => ⟨?_, fun hi1 => ?_, ?_, ?_⟩, ?_, ⟨?_, ?_⟩, ?_⟩
            · rw [o _ _ (by omega)]; exact kS i hi
            · rw [o _ _ (by omega)]; exact kG i hi1 hi
            · rw [o _ _ (by omega)]; exact kP i hi
            · rw [o _ _ (by omega)]; exact kW i hi
            · rw [cr_up_k (by decide), cr_up_k (by decide)]; exact k9
            · rw [o _ _ (by omega)]; exact kH
            · rw [o _ _ (by omega)]; exact kO
            · show (cr_up (cr_up J8 137 6 (nI t)) 137 7 (nI l) 137 6, cr_up (cr_up J8 137 6 (nI t)) 137 7 (nI l) 137 7) = (nI t, nI l)
              rw [cr_up_k (by decide), cr_up_s, cr_up_s]
        · rw [if_neg z] at hq9 ⊢
          rw [hq9]
          refine ⟨hf8, fun i hi => ⟨kS i hi, fun hi1 => kG i hi1 hi, kP i hi, kW i hi⟩, k9, ⟨kH, kO⟩, ?_⟩
          rw [k6, k7]
      · rw [fr hf 27 1 (by omega), eN]; exact Int32.le_refl _
    · intro i hi ih M hf hM hS
      have hxi : (0 : Int) ≤ (nI i).toInt ∧ (nI i).toInt < 6 := cr_ix (by omega) (by omega)
      have hmi := hmk i (by omega)
      have hmko := (hok.2.2.2.2.1 _ hmi).1
      obtain ⟨eft, hft3⟩ := cr_ofI (B := 3) hmko.2.2.2.1 hmko.2.2.2.2
      have em : f_yX3_makeOfLorry τ (nI i) M = 29 + 25 * cr_cmk I i := by
        unfold f_yX3_makeOfLorry cr_cmk
        rw [cr_nc (show i < 100000 by omega), fr hf 129 i (by omega)]
      have e0 : ∀ k, M (29 + 25 * cr_cmk I i) k = I (29 + 25 * cr_cmk I i) k := fun k => fr hf _ k (by omega)
      have esl : ∀ w q, f_yX3_mostSpeed τ w q M = cr_slopeS (I 133) (I 134) (I 135) (I 136) w q (I 27 8).toNatClampNeg := by
        intro w q
        unfold f_yX3_mostSpeed
        rw [show M 133 = I 133 from funext fun k => fr hf 133 k (by omega), show M 134 = I 134 from funext fun k => fr hf 134 k (by omega), show M 135 = I 135 from funext fun k => fr hf 135 k (by omega), show M 136 = I 136 from funext fun k => fr hf 136 k (by omega), fr hf 27 8 (by omega)]
      have evx : nI t - M (29 + 25 * cr_cmk I i) 3 = nI t - nI (I (29 + 25 * cr_cmk I i) 3).toNatClampNeg := by rw [e0, ← eft]
      have efb : f_yX4_speedBehind τ (nI i) (nI t) M = cr_S1 pp dl x4 t s i := by
        unfold f_yX4_speedBehind
        rw [em, esl, evx, e0, cr_nc (show i < 100000 by omega), cr_nc (show t < 100000 by omega), hf (139 + i) t (by unfold cr_Ppa; omega), hf (153 + i) t (by unfold cr_Ppa; omega)]
        unfold cr_S1
        rw [hpsl i _ hi, hpft i hi, sP, sS]
        generalize (I (29 + 25 * cr_cmk I i) 3).toNatClampNeg = ft at *
        have ew : (if 0 ≤ nI t - nI ft then M (160 + i) (nI t - nI ft).toNatClampNeg else (0 : Int32)) = if t < ft then 0 else cr_Wh pp dl x4 t s (t - ft) i := by
          by_cases q : t < ft
          · rw [if_pos q, if_neg (Int32.not_le.mpr (pk_sneg (by omega) q))]
          · rw [if_neg q, pk_sub (by omega), if_pos (nI_pos' (by omega)), cr_nc (by omega)]
            unfold cr_Wh
            by_cases q2 : t - ft = t
            · rw [if_pos q2, q2, hM (160 + i) t (by omega), hW0 i hi]
            · rw [if_neg q2, sW, hf (160 + i) (t - ft) (by unfold cr_Ppa; omega)]
        rw [ew]
        rfl
      refine bk_yX4_pass_106 hτ h ⟨fun z => absurd z ?_, fun _ => ⟨hxi, ?_, ?_⟩⟩
      · rw [fr hf 27 1 (by omega), eN]; exact cr_nle hi (by omega)
      · unfold p_yX4_speedBehind p_yX3_makeOfLorry p_yX3_mostSpeed
        rw [em, cr_nc (show i < 100000 by omega), fr hf 129 i (by omega), fr hf 27 8 (by omega), evx]
        refine ⟨⟨hxi, hok.2.2.2.1 i (by omega), trivial⟩, ?_⟩
        rintro v1 rfl
        refine ⟨fun z => ⟨hxi, ?_, trivial⟩, fun _ => trivial, ?_⟩
        · by_cases q : t < (I (29 + 25 * cr_cmk I i) 3).toNatClampNeg
          · exact absurd z (Int32.not_le.mpr (pk_sneg (by omega) q))
          · rw [pk_sub (by omega)]
            exact cr_ix (by omega) (by omega)
        · rintro v2 rfl
          refine ⟨hxi, hxt, hok.2.2.1.2, ?_⟩
          rintro v3 rfl
          exact ⟨hxi, hxt, trivial⟩
      · rw [nI_1, nI_1, efb, cr_nc (show i < 100000 by omega), cr_nc (show t + 1 < 100000 by omega)]
        refine ⟨hxt1, ?_⟩
        rintro J10 rfl v rfl
        refine ih _ (hf.up (by unfold cr_Ppa; omega)) (fun b k hbk => ?_) (fun j hj => ?_)
        · unfold cr_up
          rw [if_neg (by omega)]
          exact hM b k hbk
        · by_cases e : j = i
          · rw [e, cr_up_s]
          · rw [cr_up_b (by omega)]; exact hS j (by omega)
  -- 46: wishes of those behind
  have wish : ∀ M : cr_I, cr_F (cr_Ppa t) I M → M 137 9 = cr_sgm pp t s → M 166 t = cr_Ht dl x4 t s → M 167 t = cr_Ot dl x4 t → M 137 6 = I 137 6 → M 137 7 = I 137 7 → (∀ i, i < 1 → M (160 + i) t = cr_Wt pp dl x4 t s i) → cr_V Γ 46 [.ref 137, .ref 27, .int (nI t), .null, .null, .int (nI 1), .null] [] M (cr_rf τ) 247 := by
    refine cr_loop (fun i => ∀ M : cr_I, cr_F (cr_Ppa t) I M → M 137 9 = cr_sgm pp t s → M 166 t = cr_Ht dl x4 t s → M 167 t = cr_Ot dl x4 t → M 137 6 = I 137 6 → M 137 7 = I 137 7 → (∀ j, j < i + 1 → M (160 + j) t = cr_Wt pp dl x4 t s j) → cr_V Γ 46 [.ref 137, .ref 27, .int (nI t), .null, .null, .int (nI (i + 1)), .null] [] M (cr_rf τ) 247) (n - 1) ?_ ?_ 0 (Nat.zero_le _)
    · intro M hf a1 a2 a3 a4 a5 a6
      refine bk_yX4_pass_46 hτ h ⟨fun _ => fin M hf a1 a2 a3 a4 a5 (fun i hi => a6 i (by omega)), fun z => absurd ?_ z⟩
      rw [fr hf 27 1 (by omega), eN, show n - 1 + 1 = n by omega]; exact Int32.le_refl _
    · intro i0 hi0 ih M hf a1 a2 a3 a4 a5 a6
      have hi : 1 ≤ i0 + 1 ∧ i0 + 1 < n := by omega
      generalize hie : i0 + 1 = i at *
      have hxi : (0 : Int) ≤ (nI i).toInt ∧ (nI i).toInt < 6 := cr_ix (by omega) (by omega)
      have hmi := hmk i (by omega)
      have htb := (hok.2.2.2.2.1 _ hmi).2
      obtain ⟨mn, ms, mc⟩ := frn hf
      refine bk_yX4_pass_46 hτ h ⟨fun z => absurd z ?_, fun _ => ?_⟩
      · rw [fr hf 27 1 (by omega), eN]; exact cr_nle (by omega) (by omega)
      · refine cw_read (by omega) (by omega) ms (I (139 + i) t) (if cr_strS pp i t then pss pp else I (139 + (i - 1)) t) (if cr_strS pp i t then cr_sgm pp t s else I (146 + i) t) ?_ ?_ ?_ (fun J6 b0 b1 b2 b3 b4 b5 b6 => ?_)
        · rw [hf (139 + i) t (by unfold cr_Ppa; omega)]
        · simp only [frh hf]
          rw [fr hf 27 16 (by omega), hf (139 + (i - 1)) t (by unfold cr_Ppa; omega), hpss]
        · simp only [frh hf]
          rw [a1, hf (146 + i) t (by unfold cr_Ppa; omega)]
        · have hf6 : cr_F (cr_Ppa t) I J6 := hf.tr (fun b k hbk => b0 b k (fun e => hbk (by unfold cr_Ppa; omega)))
          have ho := hsp i (by omega)
          have hah : 0 ≤ (if cr_strS pp i t then pss pp else I (139 + (i - 1)) t).toInt ∧ (if cr_strS pp i t then pss pp else I (139 + (i - 1)) t).toInt ≤ 40 := by
            by_cases z : cr_strS pp i t
            · rw [if_pos z, hpss]; exact hok.2.2.2.2.2.1.2
            · rw [if_neg z]; exact hsp (i - 1) (by omega)
          rw [cr_mx0 ho hah] at b2
          rw [cr_mx0 hah ho] at b3
          have evals : ∀ r, r < 6 → J6 168 r = cr_vals (if cr_strS pp i t then cr_sgm pp t s else I (146 + i) t) (I (139 + i) t) (if cr_strS pp i t then pss pp else I (139 + (i - 1)) t) (cr_Ht dl x4 t s) (cr_Ot dl x4 t) r := by
            intro r hr
            rcases (show r = 0 ∨ r = 1 ∨ r = 2 ∨ r = 3 ∨ r = 4 ∨ r = 5 by omega) with rfl | rfl | rfl | rfl | rfl | rfl
            · rw [b1]; rfl
            · rw [b2]; rfl
            · rw [b3]; rfl
            · rw [b4]; rfl
            · rw [b5, a2]; rfl
            · rw [b6, a3]; rfl
          have e129 : J6 129 i = I 129 i := fr hf6 129 i (by omega)
          have em : f_yX3_makeOfLorry τ (nI i) J6 = 29 + 25 * cr_cmk I i := by
            unfold f_yX3_makeOfLorry cr_cmk
            rw [cr_nc (show i < 100000 by omega), e129]
          have hT := hτ.1 (cr_cmk I i) (by omega)
          have hTb : τ (cr_cmk I i) + 24 ≤ 129 := by unfold cr_isT at hT; omega
          have etab : ∀ c k, τ (cr_cmk I i) ≤ c → c < τ (cr_cmk I i) + 24 → J6 c k = I c k := fun c k q1 q2 => fr hf6 c k (by omega)
          have eW : cr_bnd (J6 (29 + 25 * cr_cmk I i) 1) (J6 (29 + 25 * cr_cmk I i) 2) (cr_wbS (τ (cr_cmk I i)) J6 (J6 168)) = cr_Wt pp dl x4 t s i := by
            rw [fr hf6 _ 1 (by omega), fr hf6 _ 2 (by omega), cr_wbS_c htb etab evals, ← hpwb i _ (by omega)]
            unfold cr_Wt
            rw [if_neg (show ¬ i = 0 by omega)]
            by_cases z : cr_strS pp i t
            · simp only [if_pos z, sS]
            · simp only [if_neg z, sS, sG]
          unfold p_yX3_makeOfLorry p_yX6_wishBy
          rw [cr_nc (show i < 100000 by omega), cr_nc (show t < 100000 by omega), e129, em, cr_bnd_eq, cr_wbS_eq]
          rw [show (I 129 i).toNatClampNeg = cr_cmk I i from rfl]
          refine ⟨⟨hxi, hok.2.2.2.1 i (by omega), trivial⟩, hxi, ⟨?_, fun l hl => ?_⟩, hxt2, ?_⟩
          · rw [etab _ 0 (by omega) (by omega)]; exact htb.1
          · rw [etab _ 0 (by omega) (by omega)] at hl
            have htl := htb.2 l hl
            have hl6 : l < 6 := by
              have := htb.1
              have : (I (τ (cr_cmk I i)) 0).toNatClampNeg ≤ 6 := by show (I (τ (cr_cmk I i)) 0).toInt.toNat ≤ 6; omega
              omega
            unfold cr_tlok at htl ⊢
            rw [etab (τ (cr_cmk I i) + 2) l (by omega) (by omega)]
            refine ⟨htl.1, fun k hk => ?_⟩
            rw [etab (τ (cr_cmk I i) + 4 + l) k (by omega) (by omega)]
            exact htl.2 k hk
          · rw [eW]
            rintro J7 rfl v rfl
            rw [nI_1]
            refine ih _ (hf6.up (by unfold cr_Ppa; omega)) ?_ ?_ ?_ ?_ ?_ (fun j hj => ?_)
            · rw [cr_up_b (by omega), b0 137 9 (by decide)]; exact a1
            · rw [cr_up_b (by omega), b0 166 t (by decide)]; exact a2
            · rw [cr_up_b (by omega), b0 167 t (by decide)]; exact a3
            · rw [cr_up_b (by omega), b0 137 6 (by decide)]; exact a4
            · rw [cr_up_b (by omega), b0 137 7 (by decide)]; exact a5
            · by_cases e : j = i
              · rw [e, cr_up_s]
              · rw [cr_up_b (by omega), b0 (160 + j) t (by omega)]
                exact a6 j (by omega)
  -- words, the first one's wish
  have main : ∀ J3 : cr_I, cr_F (fun b k => b = 137 ∧ k = 9) I J3 → J3 137 9 = cr_sgm pp t s → (p_yX4_hear τ (nI t) x3 x4 J3 ∧ (∀ (J4 : cr_I), q_yX4_hear τ (nI t) x3 x4 J3 J4 → (p_yX3_makeOfLorry τ (0 : Int32) J4 ∧ p_yX3_pushIn τ (nI t) J4 ∧ (0 ≤ (nI t).toInt ∧ (nI t).toInt < 32) ∧ (∀ J5 : cr_I, J5 = cr_up J4 160 (nI t).toNatClampNeg (f_yX2_bounded τ (f_yX3_makeOfLorry τ (0 : Int32) J4) (f_yX3_pushIn τ (nI t) J4) J4) → cr_V Γ 46 [.ref 137, .ref 27, .int (nI t), .null, .null, .int (1 : Int32), .null] [] J5 (cr_rf τ) 247)))) := by
    intro J3 hf3 hX3
    refine ⟨⟨by rw [cr_nt (by omega)]; omega, h30, h31⟩, fun J4 hq => ?_⟩
    unfold q_yX4_hear at hq
    rw [cr_nc (show t < 100000 by omega), hdl] at hq
    obtain ⟨g1, g2, g3⟩ := hq
    have hf4 : cr_F (cr_Ppa t) I J4 := (hf3.wd (fun b k z => by unfold cr_Ppa; omega)).tr (g3.wd (fun b k z => by unfold cr_PH at z; unfold cr_Ppa; omega))
    have e129 : J4 129 0 = I 129 0 := fr hf4 129 0 (by omega)
    have hm0 := hmk 0 (by omega)
    have em : f_yX3_makeOfLorry τ 0 J4 = 29 + 25 * cr_cmk I 0 := by
      show 29 + 25 * (J4 129 0).toNatClampNeg = _
      rw [e129]
      rfl
    have epu : f_yX3_pushIn τ (nI t) J4 = cr_pushS (I 131) (I 132) (nI t) (I 27 5).toNatClampNeg := by
      unfold f_yX3_pushIn
      rw [show J4 131 = I 131 from funext fun k => fr hf4 131 k (by omega), show J4 132 = I 132 from funext fun k => fr hf4 132 k (by omega), fr hf4 27 5 (by omega)]
    have eHt : J4 166 t = cr_Ht dl x4 t s := by
      rw [g1]
      unfold cr_Ht
      cases hl : cr_last x4 (t + 1 - dl) with
      | none => rfl
      | some q =>
        have hq := cr_last_lt _ hl
        show (if 0 < -(J3 160 q) then -(J3 160 q) else 0) = if rW s q 0 < 0 then -(rW s q 0) else 0
        rw [hf3 160 q (by omega), sW]
        exact cr_mx1 (hwb q (by have hdl1 : 1 ≤ dl := (by rw [← hdl]; unfold cr_dl; split <;> omega); omega))
    refine ⟨⟨by decide, ?_, trivial⟩, ?_, hxt2, ?_⟩
    · show 0 ≤ (J4 129 0).toInt ∧ (J4 129 0).toInt < 4
      rw [e129]; exact hok.2.2.2.1 0 (by decide)
    · unfold p_yX3_pushIn
      rw [fr hf4 27 5 (by omega)]; exact hok.2.2.1.1
    · rw [em, epu, cr_bnd_eq, fr hf4 _ 1 (by omega), fr hf4 _ 2 (by omega), ← hppw t, cr_nc (show t < 100000 by omega)]
      rintro J5 rfl
      refine wish _ (hf4.up (by unfold cr_Ppa; omega)) ?_ ?_ ?_ ?_ ?_ (fun i hi => ?_)
      · rw [cr_up_b (by decide), g3 137 9 (by unfold cr_PH; omega)]; exact hX3
      · rw [cr_up_b (by decide)]; exact eHt
      · rw [cr_up_b (by decide)]; exact g2
      · rw [cr_up_b (by decide), g3 137 6 (by unfold cr_PH; omega), hf3 137 6 (by omega)]
      · rw [cr_up_b (by decide), g3 137 7 (by unfold cr_PH; omega), hf3 137 7 (by omega)]
      · have : i = 0 := by omega
        subst this
        rw [cr_up_s]
        unfold cr_Wt
        rw [if_pos rfl]
  have e14 : I 27 14 = nI (I 27 14).toNatClampNeg := (cr_ofI (B := 31) hs.2.1.1 (by have := hs.2; omega)).1
  have b14 : (I 27 14).toNatClampNeg ≤ 31 := (cr_ofI (B := 31) hs.2.1.1 (by have := hs.2; omega)).2
  have e13 : I 27 13 = nI (I 27 13).toNatClampNeg := (cr_ofI (B := 5) hs.1.1 hs.1.2).1
  have e14t : (nI t = I 27 14) ↔ t = (I 27 14).toNatClampNeg := by
    rw [e14, cr_nc (show (I 27 14).toNatClampNeg < 100000 by omega)]
    exact cr_neq (by omega) (by omega)
  refine bk_yX4_pass_0 hτ h ?_
  rw [e2, e14t]
  refine ⟨fun c => main I cr_F.rf ?_, fun c => ?_⟩
  · unfold cr_sgm
    rw [if_neg (fun z => c (z.1.trans hpfr)), sX]
  · intro v1 ev
    have c0 : (v1 ≤ 0) ↔ (I 27 13).toNatClampNeg = 0 := by rw [ev, e13, ← nI_0, cr_nc (show (I 27 13).toNatClampNeg < 100000 by omega), cr_nlq (by omega) (by omega)]; omega
    have c1 : (I 27 1 ≤ v1) ↔ n ≤ (I 27 13).toNatClampNeg := by rw [ev, e13, eN, cr_nc (show (I 27 13).toNatClampNeg < 100000 by omega), cr_nlq (by omega) (by omega)]
    rw [c0, c1]
    refine ⟨fun z => main I cr_F.rf ?_, fun z => ⟨fun y => main I cr_F.rf ?_, fun y => ⟨?_, ?_, ?_⟩⟩⟩
    · unfold cr_sgm
      rw [if_neg (fun w => by rw [hpL] at w; omega), sX]
    · unfold cr_sgm
      rw [if_neg (fun w => by rw [hpL, hpn] at w; omega), sX]
    · rw [ev]; exact ⟨hs.1.1, by have := hs.1.2; omega⟩
    · exact hxt
    · rintro J1 rfl
      refine main _ (cr_F.rf.up ⟨rfl, rfl⟩) ?_
      rw [cr_up_s, cr_nc (show t < 100000 by omega)]
      unfold cr_sgm
      rw [if_pos ⟨by rw [hpfr]; exact c, by rw [hpL]; omega, by rw [hpL, hpn]; omega⟩, sG, hpL, ev])
