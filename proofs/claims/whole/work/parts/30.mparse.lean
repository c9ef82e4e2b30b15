/-! frames: all but P -/
def cr_F (P : Nat → Nat → Prop) (I J : cr_I) : Prop := ∀ b k, ¬ P b k → J b k = I b k
theorem cr_F.rf {P : Nat → Nat → Prop} {I : cr_I} : cr_F P I I := fun _ _ _ => rfl
theorem cr_F.tr {P : Nat → Nat → Prop} {I J L : cr_I} (h1 : cr_F P I J) (h2 : cr_F P J L) : cr_F P I L := fun b k h => (h2 b k h).trans (h1 b k h)
theorem cr_F.up {P : Nat → Nat → Prop} {I J : cr_I} {b k : Nat} {v : Int32} (h : cr_F P I J) (hp : P b k) : cr_F P I (cr_up J b k v) := fun b' k' hn => by
  unfold cr_up
  rw [if_neg (fun e => hn (by rw [e.1, e.2]; exact hp))]
  exact h b' k' hn
theorem cr_F.wd {P Q : Nat → Nat → Prop} {I J : cr_I} (h : cr_F P I J) (hpq : ∀ b k, P b k → Q b k) : cr_F Q I J := fun b k hn => h b k (fun z => hn (hpq b k z))
theorem cr_f3.F {Q : Nat → Nat → Prop} {I J : cr_I} (h : cr_f3 I J) (hpq : ∀ b k, (b = 200 ∧ 44 ≤ k ∧ k ≤ 46) → Q b k) : cr_F Q I J := fun b k hn => h b k (fun z => hn (hpq b k z))
theorem cr_mt.tk {I : cr_I} {t : cr_tk} (h : cr_mt I t) : cr_mtk I = t := by
  obtain ⟨⟨eL, hL⟩, ⟨e44, e45, e46⟩, ht1, ht2⟩ := h
  unfold cr_mtk
  rw [e45, e46, cr_nc (by omega), cr_nc (by omega)]
theorem cr_mt.eqv {I J : cr_I} {t : cr_tk} (h : cr_mt I t) (e5 : J 200 5 = I 200 5) (e44 : J 200 44 = I 200 44) (e45 : J 200 45 = I 200 45) (e46 : J 200 46 = I 200 46) : cr_mt J t := by
  unfold cr_mt cr_mL at *
  rw [e5, e44, e45, e46]
  exact h
/-! numbers in a token -/
theorem cr_run_all {B : Nat → Int32} {L : Nat} {k : Int32} : ∀ m p, L - p = m → ∀ q, p ≤ q → q < cr_run B L k p → cr_kdS (B q) = k := by
  intro m
  induction m with
  | zero =>
    intro p hm q h1 h2
    rw [cr_run_n (by omega)] at h2
    omega
  | succ m ih =>
    intro p hm q h1 h2
    by_cases c : cr_kdS (B p) = k
    · rw [cr_run_y (by omega) c] at h2
      by_cases e : q = p
      · rw [e]; exact c
      · exact ih (p + 1) (by omega) q (by omega) h2
    · rw [cr_run_n (fun z => c z.2)] at h2
      omega
theorem cr_dig {c : Int32} (h : cr_kdS c = 1) : 48 ≤ c.toInt ∧ c.toInt ≤ 57 := by
  revert h
  unfold cr_kdS f_yX7_kindOf f_yX7_isDigit
  have a48 : (48 : Int32).toInt = 48 := rfl
  have a57 : (57 : Int32).toInt = 57 := rfl
  have a97 : (97 : Int32).toInt = 97 := rfl
  have a122 : (122 : Int32).toInt = 122 := rfl
  simp only [cr_lt, a48, a57, a97, a122]
  by_cases q1 : c.toInt < 48
  · by_cases q0 : c.toInt < 97
    · simp [q1, q0]
    · omega
  · by_cases q2 : 57 < c.toInt
    · simp only [if_neg q1, if_pos q2]
      split
      · intro z; exact absurd z (by decide)
      · split
        · intro z; exact absurd z (by decide)
        · intro z; exact absurd z (by decide)
    · intro _
      omega
theorem cr_num_b {B : Nat → Int32} {L : Nat} {u : cr_tk} (hu : u.2 ≤ L) (h : cr_isN B L (cr_nx B L u) = true) : 0 ≤ (cr_num B (cr_nx B L u)).toInt ∧ (cr_num B (cr_nx B L u)).toInt ≤ 99 := by
  have hs := cr_sk_le (B := B) hu
  have ht := cr_nx_ok (B := B) hu
  unfold cr_isN at h
  rw [Bool.and_eq_true, Bool.and_eq_true] at h
  obtain ⟨⟨h1, h2⟩, h3⟩ := h
  have h1 := of_decide_eq_true h1
  have h2 := of_decide_eq_true h2
  have h3 := of_decide_eq_true h3
  have e2 : (cr_nx B L u).2 = cr_te B L (cr_nx B L u).1 := rfl
  unfold cr_num
  generalize cr_nx B L u = t at *
  unfold cr_te at e2
  rw [if_pos h1, if_neg (by rw [h2]; decide), h2] at e2
  have hall : ∀ q, t.1 ≤ q → q < t.2 → cr_kdS (B q) = 1 := by
    intro q a b
    by_cases e : q = t.1
    · rw [e]; exact h2
    · exact cr_run_all (L := L) _ (t.1 + 1) rfl q (by omega) (by omega)
  have hr := cr_run_le (B := B) (k := 1) (show t.1 + 1 ≤ L by omega)
  have d0 := cr_dig (hall t.1 (by omega) (by omega))
  have ten : (10 : Int32).toInt = 10 := rfl
  have f48 : (48 : Int32).toInt = 48 := rfl
  have z0 : (0 : Int32).toInt = 0 := rfl
  have m0 : ((10 : Int32) * 0).toInt = 0 := rfl
  have v1 : (cr_nmF B t.1 1).toInt = (B t.1).toInt - 48 := by
    show (10 * 0 + B (t.1 + 0) - 48).toInt = _
    rw [Nat.add_zero]
    have e1 : ((10 : Int32) * 0 + B t.1).toInt = (B t.1).toInt := by rw [cr_add (by omega)]; omega
    rw [cr_sub (by omega), e1]
    omega
  rcases (show t.2 - t.1 = 1 ∨ t.2 - t.1 = 2 by omega) with e | e
  · rw [e, v1]; omega
  · rw [e]
    have d1 := cr_dig (hall (t.1 + 1) (by omega) (by omega))
    have m1 : ((10 : Int32) * cr_nmF B t.1 1).toInt = 10 * ((B t.1).toInt - 48) := by rw [cr_mul (by rw [ten, v1]; omega), v1, ten]
    have e1 : (10 * cr_nmF B t.1 1 + B (t.1 + 1)).toInt = 10 * ((B t.1).toInt - 48) + (B (t.1 + 1)).toInt := by rw [cr_add (by omega), m1]
    have e2 : (cr_nmF B t.1 2).toInt = 10 * ((B t.1).toInt - 48) + (B (t.1 + 1)).toInt - 48 := by
      show (10 * cr_nmF B t.1 1 + B (t.1 + 1) - 48).toInt = _
      rw [cr_sub (by omega), e1, f48]
    rw [e2]
    omega
def t_yX9_skips (τ : Nat → Nat) (x1 : Int64) (x3 : Int32) (I : cr_I) (Q : Int32 → cr_I → Prop) : Prop := p_yX9_isWord τ x1 x3 I ∧ (∀ v1 : Int32, v1 = (f_yX9_isWord τ x1 x3 I) → ((v1 = 0 → ((v1 = 0 ∨ v1 = 1) ∧ Q v1 I)) ∧ (¬ v1 = 0 → (p_yX9_token τ I ∧ (∀ (J1 : cr_I), q_yX9_token τ I J1 → ((v1 = 0 ∨ v1 = 1) ∧ Q v1 J1))))))
abbrev T_yX9_skips : cr_T := fun vs I R K => ∃ (τ : Nat → Nat) (x1 : Int64) (x3 : Int32) (Q : Int32 → cr_I → Prop), R = cr_rf τ ∧ cr_tau τ ∧ vs = [.ref 200, .long x1, .int x3] ∧ t_yX9_skips τ x1 x3 I Q ∧ ∀ r J, Q r J → K (some (.int r)) J (cr_rf τ)
theorem C_yX9_skips : cr_C yX9_skips cX9_skips 5 (some .boolean) (cr_rm0 2 40) 247 247 T_yX9_skips := by
  refine cr_C.of (by decide +kernel) (fun vs I R K hT => ?_) (fun Γ K h vs I R hT => ?_)
  · obtain ⟨τ, x1, x3, Q, rfl, hτ, rfl, hyp, hK⟩ := hT
    exact Nat.le_of_ble_eq_true rfl
  · obtain ⟨τ, x1, x3, Q, rfl, hτ, rfl, hyp, hK⟩ := hT
    unfold t_yX9_skips at hyp
    show cr_V Γ 0 [.ref 200, .long x1, .null, .int x3, .null] [] I (cr_rf τ) 247
    refine cr_aload_n h (j := 0) rfl rfl dX9_skips_0 ?_
    refine cr_lload_n h (j := 1) rfl rfl dX9_skips_1 ?_
    refine cr_iload_n h (j := 3) rfl rfl dX9_skips_2 ?_
    refine cr_callV h (c0 := 9) (T0 := TX9) C_yX9_isWord cZ_yX9_isWord wm_X9_190 wv_yX9_isWord we_yX9_isWord (by decide) rfl rfl (cr_rmS (by decide) (by decide)) (As := [.long x1, .int x3]) rfl (Nat.le_of_ble_eq_true rfl) dX9_skips_3 ⟨τ, x1, x3, rfl, hτ, rfl, hyp.1, ?_⟩
    have hyp := hyp.2
    show cr_V Γ 6 [.ref 200, .long x1, .null, .int x3, .null] [.int (f_yX9_isWord τ x1 x3 I)] I (cr_rf τ) 247
    refine cs_i h 4 (by decide) rfl dX9_skips_6 (fun v1 ev1 => ?_)
    have hyp := hyp v1 ev1
    show cr_V Γ 8 [.ref 200, .long x1, .null, .int x3, .int v1] [] I (cr_rf τ) 247
    refine cr_iload h rfl dX9_skips_8 ?_
    refine cr_if_eq h (tgt := 17) (by decide) dX9_skips_10 (fun c1 => ?_) (fun c1 => ?_)
    · have hyp := hyp.1 c1
      refine cr_iload h rfl dX9_skips_17 ?_
      refine cr_iret h rfl (nb_of hyp.1) rfl dX9_skips_19 ?_
      have hyp := hyp.2
      exact hK _ _ hyp
    · have hyp := hyp.2 c1
      refine cr_aload_n h (j := 0) rfl rfl dX9_skips_13 ?_
      refine cr_callV h (c0 := 9) (T0 := TX9) C_yX9_token cZ_yX9_token wm_X9_194 wv_yX9_token we_yX9_token (by decide) rfl rfl (cr_rmS (by decide) (by decide)) (As := []) rfl (Nat.le_of_ble_eq_true rfl) dX9_skips_14 ⟨τ, rfl, hτ, rfl, hyp.1, fun J1 q1 => ?_⟩
      have hyp := hyp.2 J1 q1
      show cr_V Γ 17 [.ref 200, .long x1, .null, .int x3, .int v1] [] J1 (cr_rf τ) 247
      refine cr_iload h rfl dX9_skips_17 ?_
      refine cr_iret h rfl (nb_of hyp.1) rfl dX9_skips_19 ?_
      have hyp := hyp.2
      exact hK _ _ hyp
theorem cw_skips {τ : Nat → Nat} {I : cr_I} {t : cr_tk} {Q : Int32 → cr_I → Prop} (h : cr_mt I t) (w : Nat) {W : Int64} {n : Int32} (hn : n.toNatClampNeg = cr_txL.getD w 0) (hn7 : 0 ≤ n.toInt ∧ n.toInt ≤ 7) (hc : ∀ k, k < n.toNatClampNeg → cr_wlc W k = cr_txc w k) (k1 : cr_isW (I 205) t w = true → ∀ J, cr_f3 I J → cr_mt J (cr_nx (I 205) (cr_mL I) t) → Q 1 J) (k0 : ¬ cr_isW (I 205) t w = true → Q 0 I) : t_yX9_skips τ W n I Q := by
  have hw := h.w (τ := τ) w hn hn7 hc
  have ha := h.adv (τ := τ)
  refine ⟨hw.1, ?_⟩
  rintro v rfl
  rw [hw.2]
  by_cases q : cr_isW (I 205) t w = true
  · rw [if_pos q]
    exact ⟨fun z => absurd z (by decide), fun _ => ⟨ha.1, fun J hJ => ⟨Or.inr rfl, k1 q J (ha.2 J hJ).1 (ha.2 J hJ).2⟩⟩⟩
  · rw [if_neg q]
    exact ⟨fun _ => ⟨Or.inl rfl, k0 q⟩, fun z => absurd rfl z⟩
def cr_P4 (b k : Nat) : Prop := b = 200 ∧ 44 ≤ k ∧ k ≤ 47
def p_yX9_skipsNumber (τ : Nat → Nat) (I : cr_I) : Prop := cr_mt I (cr_mtk I)
def q_yX9_skipsNumber (τ : Nat → Nat) (I : cr_I) (r : Int32) (J : cr_I) : Prop := cr_F cr_P4 I J ∧ (cr_isN (I 205) (cr_mL I) (cr_mtk I) = true → r = 1 ∧ J 200 47 = cr_num (I 205) (cr_mtk I) ∧ cr_mt J (cr_nx (I 205) (cr_mL I) (cr_mtk I))) ∧ (¬ cr_isN (I 205) (cr_mL I) (cr_mtk I) = true → r = 0 ∧ cr_mt J (cr_mtk I))
theorem bk_yX9_skipsNumber_0 {Γ : cr_G} {K : cr_K} {τ : Nat → Nat} {I : cr_I}  (hτ : cr_tau τ)  (h : cr_Ok yX9_skipsNumber cX9_skipsNumber 3 (some .boolean) (cr_rm0 2 40) K 247 247 Γ) (hyp : ((I 200 5) ≤ (I 200 45) → True) ∧ (¬ (I 200 5) ≤ (I 200 45) → ((0 ≤ (I 200 45).toInt ∧ (I 200 45).toInt < 160) ∧ True)) ∧ (∀ v1 : Int32, v1 = (if (I 200 5) ≤ (I 200 45) then (0 : Int32) else (if (f_yX9_sort τ (I 205 (I 200 45).toNatClampNeg) I) = (2 : Int32) then (if (2 : Int32) < ((I 200 46) - (I 200 45)) then (0 : Int32) else (1 : Int32)) else (0 : Int32))) → (∀ J1 : cr_I, J1 = cr_up I 200 47 (0 : Int32) → (∀ v2 : Int32, v2 = (J1 200 45) → cr_V Γ 56 [.ref 200, .int v1, .int v2] [] J1 (cr_rf τ) 247)))) : cr_V Γ 0 [.ref 200, .null, .null] [] I (cr_rf τ) 247 := by
  refine cr_aload_n h (j := 0) rfl rfl dX9_skipsNumber_0 ?_
  refine cr_getI h (k := 45) cr_clsX9 (by decide) rfl rfl wf_X9_178 (by decide) rfl dX9_skipsNumber_1 ?_
  refine cr_aload_n h (j := 0) rfl rfl dX9_skipsNumber_4 ?_
  refine cr_getI h (k := 5) cr_clsX9 (by decide) rfl rfl wf_X9_170 (by decide) rfl dX9_skipsNumber_5 ?_
  have hsJ2 := hyp.1
  have htJ2 := hyp.2.1
  have hyp := hyp.2.2
  have J2 : cr_V Γ 45 [.ref 200, .null, .null] [.int (if (I 200 5) ≤ (I 200 45) then (0 : Int32) else (if (f_yX9_sort τ (I 205 (I 200 45).toNatClampNeg) I) = (2 : Int32) then (if (2 : Int32) < ((I 200 46) - (I 200 45)) then (0 : Int32) else (1 : Int32)) else (0 : Int32)))] I (cr_rf τ) 247 := by
    refine cs_i_n h 1 rfl (by decide) rfl dX9_skipsNumber_45 (fun v1 ev1 => ?_)
    have hyp := hyp v1 ev1
    show cr_V Γ 46 [.ref 200, .int v1, .null] [] I (cr_rf τ) 247
    refine cr_aload_n h (j := 0) rfl rfl dX9_skipsNumber_46 ?_
    refine cr_iconst h (v := (0 : Int32)) (by decide) dX9_skipsNumber_47 ?_
    refine cs_put h (k := 47) cr_clsX9 (by decide) rfl rfl rfl rfl wf_X9_197 (by decide) (by decide) rfl dX9_skipsNumber_48 (fun J1 eJ1 => ?_)
    have hyp := hyp J1 eJ1
    refine cr_aload_n h (j := 0) rfl rfl dX9_skipsNumber_51 ?_
    refine cr_getI h (k := 45) cr_clsX9 (by decide) rfl rfl wf_X9_178 (by decide) rfl dX9_skipsNumber_52 ?_
    refine cs_i_n h 2 rfl (by decide) rfl dX9_skipsNumber_55 (fun v2 ev2 => ?_)
    have hyp := hyp v2 ev2
    show cr_V Γ 56 [.ref 200, .int v1, .int v2] [] J1 (cr_rf τ) 247
    exact cr_weak [true, true, true] hyp
  refine cr_icmp_ge h (tgt := 44) (by decide) dX9_skipsNumber_8 (fun c1 => ?_) (fun c1 => ?_)
  · refine cr_iconst h (v := (0 : Int32)) (by decide) dX9_skipsNumber_44 ?_
    exact cr_ite (by rw [if_pos c1]) J2
  · have hyp := htJ2 c1
    refine cr_aload_n h (j := 0) rfl rfl dX9_skipsNumber_11 ?_
    refine cr_getR h (k := 4) cr_clsX9 (by decide) rfl rfl wf_X9_22 (by decide) rfl rfl dX9_skipsNumber_12 ?_
    refine cr_aload_n h (j := 0) rfl rfl dX9_skipsNumber_15 ?_
    refine cr_getI h (k := 45) cr_clsX9 (by decide) rfl rfl wf_X9_178 (by decide) rfl dX9_skipsNumber_16 ?_
    refine cs_ild h (by decide) rfl hyp.1 (q := (I 200 45).toNatClampNeg) rfl dX9_skipsNumber_19 ?_
    have hyp := hyp.2
    refine cr_callS h C_yX9_sort cZ_yX9_sort wm_X9_181 ws_yX9_sort (cr_rmS (by decide) (by decide)) (As := [.int (I 205 (I 200 45).toNatClampNeg)]) rfl (Nat.le_of_ble_eq_true rfl) dX9_skipsNumber_20 ⟨τ, (I 205 (I 200 45).toNatClampNeg), rfl, hτ, rfl, ?_⟩
    show cr_V Γ 23 [.ref 200, .null, .null] [.int (f_yX9_sort τ (I 205 (I 200 45).toNatClampNeg) I)] I (cr_rf τ) 247
    refine cr_iconst h (v := (2 : Int32)) (by decide) dX9_skipsNumber_23 ?_
    refine cr_icmp_ne h (tgt := 44) (by decide) dX9_skipsNumber_24 (fun c2 => ?_) (fun c2 => ?_)
    · refine cr_iconst h (v := (0 : Int32)) (by decide) dX9_skipsNumber_44 ?_
      exact cr_ite (by rw [if_neg c1, if_neg c2]) J2
    · refine cr_aload_n h (j := 0) rfl rfl dX9_skipsNumber_27 ?_
      refine cr_getI h (k := 46) cr_clsX9 (by decide) rfl rfl wf_X9_185 (by decide) rfl dX9_skipsNumber_28 ?_
      refine cr_aload_n h (j := 0) rfl rfl dX9_skipsNumber_31 ?_
      refine cr_getI h (k := 45) cr_clsX9 (by decide) rfl rfl wf_X9_178 (by decide) rfl dX9_skipsNumber_32 ?_
      refine cr_isub h dX9_skipsNumber_35 ?_
      refine cr_iconst h (v := (2 : Int32)) (by decide) dX9_skipsNumber_36 ?_
      refine cr_icmp_gt h (tgt := 44) (by decide) dX9_skipsNumber_37 (fun c3 => ?_) (fun c3 => ?_)
      · refine cr_iconst h (v := (0 : Int32)) (by decide) dX9_skipsNumber_44 ?_
        exact cr_ite (by rw [if_neg c1, if_pos c2, if_pos c3]) J2
      · refine cr_iconst h (v := (1 : Int32)) (by decide) dX9_skipsNumber_40 ?_
        refine cr_goto h (tgt := 45) (by decide) dX9_skipsNumber_41 ?_
        exact cr_ite (by rw [if_neg c1, if_pos c2, if_neg c3]) J2
theorem bk_yX9_skipsNumber_56 {Γ : cr_G} {K : cr_K} {τ : Nat → Nat} {I : cr_I} {x1 : Int32} {x2 : Int32} (hτ : cr_tau τ)  (h : cr_Ok yX9_skipsNumber cX9_skipsNumber 3 (some .boolean) (cr_rm0 2 40) K 247 247 Γ) (hyp : (x1 = 0 → ((x1 = 0 → ((x1 = 0 ∨ x1 = 1) ∧ K (some (.int x1)) I (cr_rf τ))) ∧ (¬ x1 = 0 → (p_yX9_token τ I ∧ (∀ (J3 : cr_I), q_yX9_token τ I J3 → ((x1 = 0 ∨ x1 = 1) ∧ K (some (.int x1)) J3 (cr_rf τ))))))) ∧ (¬ x1 = 0 → (((I 200 46) ≤ x2 → ((x1 = 0 → ((x1 = 0 ∨ x1 = 1) ∧ K (some (.int x1)) I (cr_rf τ))) ∧ (¬ x1 = 0 → (p_yX9_token τ I ∧ (∀ (J4 : cr_I), q_yX9_token τ I J4 → ((x1 = 0 ∨ x1 = 1) ∧ K (some (.int x1)) J4 (cr_rf τ))))))) ∧ (¬ (I 200 46) ≤ x2 → ((0 ≤ x2.toInt ∧ x2.toInt < 160) ∧ (∀ J5 : cr_I, J5 = cr_up I 200 47 ((((10 : Int32) * (I 200 47)) + (I 205 x2.toNatClampNeg)) - (48 : Int32)) → (∀ v3 : Int32, v3 = x2 + (1 : Int32) → cr_V Γ 56 [.ref 200, .int x1, .int v3] [] J5 (cr_rf τ) 247))))))) : cr_V Γ 56 [.ref 200, .int x1, .int x2] [] I (cr_rf τ) 247 := by
  refine cr_iload_n h (j := 1) rfl rfl dX9_skipsNumber_56 ?_
  refine cr_if_eq h (tgt := 95) (by decide) dX9_skipsNumber_57 (fun c4 => ?_) (fun c4 => ?_)
  · have hyp := hyp.1 c4
    refine cr_iload_n h (j := 1) rfl rfl dX9_skipsNumber_95 ?_
    refine cr_if_eq h (tgt := 103) (by decide) dX9_skipsNumber_96 (fun c5 => ?_) (fun c5 => ?_)
    · have hyp := hyp.1 c5
      refine cr_iload_n h (j := 1) rfl rfl dX9_skipsNumber_103 ?_
      refine cr_iret h rfl (nb_of hyp.1) rfl dX9_skipsNumber_104 ?_
      have hyp := hyp.2
      exact hyp
    · have hyp := hyp.2 c5
      refine cr_aload_n h (j := 0) rfl rfl dX9_skipsNumber_99 ?_
      refine cr_callV h (c0 := 9) (T0 := TX9) C_yX9_token cZ_yX9_token wm_X9_194 wv_yX9_token we_yX9_token (by decide) rfl rfl (cr_rmS (by decide) (by decide)) (As := []) rfl (Nat.le_of_ble_eq_true rfl) dX9_skipsNumber_100 ⟨τ, rfl, hτ, rfl, hyp.1, fun J3 q1 => ?_⟩
      have hyp := hyp.2 J3 q1
      show cr_V Γ 103 [.ref 200, .int x1, .int x2] [] J3 (cr_rf τ) 247
      refine cr_iload_n h (j := 1) rfl rfl dX9_skipsNumber_103 ?_
      refine cr_iret h rfl (nb_of hyp.1) rfl dX9_skipsNumber_104 ?_
      have hyp := hyp.2
      exact hyp
  · have hyp := hyp.2 c4
    refine cr_iload_n h (j := 2) rfl rfl dX9_skipsNumber_60 ?_
    refine cr_aload_n h (j := 0) rfl rfl dX9_skipsNumber_61 ?_
    refine cr_getI h (k := 46) cr_clsX9 (by decide) rfl rfl wf_X9_185 (by decide) rfl dX9_skipsNumber_62 ?_
    refine cr_icmp_ge h (tgt := 95) (by decide) dX9_skipsNumber_65 (fun c6 => ?_) (fun c6 => ?_)
    · have hyp := hyp.1 c6
      refine cr_iload_n h (j := 1) rfl rfl dX9_skipsNumber_95 ?_
      refine cr_if_eq h (tgt := 103) (by decide) dX9_skipsNumber_96 (fun c7 => ?_) (fun c7 => ?_)
      · have hyp := hyp.1 c7
        refine cr_iload_n h (j := 1) rfl rfl dX9_skipsNumber_103 ?_
        refine cr_iret h rfl (nb_of hyp.1) rfl dX9_skipsNumber_104 ?_
        have hyp := hyp.2
        exact hyp
      · have hyp := hyp.2 c7
        refine cr_aload_n h (j := 0) rfl rfl dX9_skipsNumber_99 ?_
        refine cr_callV h (c0 := 9) (T0 := TX9) C_yX9_token cZ_yX9_token wm_X9_194 wv_yX9_token we_yX9_token (by decide) rfl rfl (cr_rmS (by decide) (by decide)) (As := []) rfl (Nat.le_of_ble_eq_true rfl) dX9_skipsNumber_100 ⟨τ, rfl, hτ, rfl, hyp.1, fun J4 q2 => ?_⟩
        have hyp := hyp.2 J4 q2
        show cr_V Γ 103 [.ref 200, .int x1, .int x2] [] J4 (cr_rf τ) 247
        refine cr_iload_n h (j := 1) rfl rfl dX9_skipsNumber_103 ?_
        refine cr_iret h rfl (nb_of hyp.1) rfl dX9_skipsNumber_104 ?_
        have hyp := hyp.2
        exact hyp
    · have hyp := hyp.2 c6
      refine cr_aload_n h (j := 0) rfl rfl dX9_skipsNumber_68 ?_
      refine cr_bipush h (v := (10 : Int32)) (by decide) dX9_skipsNumber_69 ?_
      refine cr_aload_n h (j := 0) rfl rfl dX9_skipsNumber_71 ?_
      refine cr_getI h (k := 47) cr_clsX9 (by decide) rfl rfl wf_X9_197 (by decide) rfl dX9_skipsNumber_72 ?_
      refine cr_imul h dX9_skipsNumber_75 ?_
      refine cr_aload_n h (j := 0) rfl rfl dX9_skipsNumber_76 ?_
      refine cr_getR h (k := 4) cr_clsX9 (by decide) rfl rfl wf_X9_22 (by decide) rfl rfl dX9_skipsNumber_77 ?_
      refine cr_iload_n h (j := 2) rfl rfl dX9_skipsNumber_80 ?_
      refine cs_ild h (by decide) rfl hyp.1 (q := x2.toNatClampNeg) rfl dX9_skipsNumber_81 ?_
      have hyp := hyp.2
      refine cr_iadd h dX9_skipsNumber_82 ?_
      refine cr_bipush h (v := (48 : Int32)) (by decide) dX9_skipsNumber_83 ?_
      refine cr_isub h dX9_skipsNumber_85 ?_
      refine cs_put h (k := 47) cr_clsX9 (by decide) rfl rfl rfl rfl wf_X9_197 (by decide) (by decide) rfl dX9_skipsNumber_86 (fun J5 eJ5 => ?_)
      have hyp := hyp J5 eJ5
      refine cs_inc h (v := (1 : Int32)) 2 rfl (by decide) (by decide) rfl dX9_skipsNumber_89 (fun v3 ev3 => ?_)
      have hyp := hyp v3 ev3
      show cr_V Γ 92 [.ref 200, .int x1, .int v3] [] J5 (cr_rf τ) 247
      refine cr_goto h (tgt := 56) (by decide) dX9_skipsNumber_92 ?_
      exact cr_weak [true, true, true] hyp
abbrev T_yX9_skipsNumber : cr_T := fun vs I R K => ∃ (τ : Nat → Nat), R = cr_rf τ ∧ cr_tau τ ∧ vs = [.ref 200] ∧ p_yX9_skipsNumber τ I ∧ ∀ (r : Int32) J, q_yX9_skipsNumber τ I r J → K (some (.int r)) J (cr_rf τ)
abbrev S_yX9_skipsNumber : Prop := cr_C yX9_skipsNumber cX9_skipsNumber 3 (some .boolean) (cr_rm0 2 40) 247 247 T_yX9_skipsNumber
theorem G_yX9_skipsNumber (H : ∀ (Γ : cr_G) (K : cr_K) (τ : Nat → Nat) (I : cr_I), cr_tau τ → cr_Ok yX9_skipsNumber cX9_skipsNumber 3 (some .boolean) (cr_rm0 2 40) K 247 247 Γ → p_yX9_skipsNumber τ I → (∀ (r : Int32) J, q_yX9_skipsNumber τ I r J → K (some (.int r)) J (cr_rf τ)) → cr_V Γ 0 [.ref 200, .null, .null] [] I (cr_rf τ) 247) : cr_C yX9_skipsNumber cX9_skipsNumber 3 (some .boolean) (cr_rm0 2 40) 247 247 T_yX9_skipsNumber := by
  refine cr_C.of (by decide +kernel) (fun vs I R K hT => ?_) (fun Γ K h vs I R hT => ?_)
  · obtain ⟨τ, rfl, hτ, rfl, hp, hK⟩ := hT
    exact Nat.le_of_ble_eq_true rfl
  · obtain ⟨τ, rfl, hτ, rfl, hp, hK⟩ := hT
    exact H Γ K τ I hτ h hp hK
theorem C_yX9_skipsNumber : S_yX9_skipsNumber := G_yX9_skipsNumber (by
  intro Γ K τ I hτ h hp hK
  unfold q_yX9_skipsNumber at hK
  generalize ht : cr_mtk I = t at *
  have hp : cr_mt I t := by have := hp; unfold p_yX9_skipsNumber at this; rw [ht] at this; exact this
  have hp2 := hp
  obtain ⟨⟨eL, hL⟩, ⟨e44, e45, e46⟩, ht1, ht2⟩ := hp
  have esub : I 200 46 - I 200 45 = nI (t.2 - t.1) := by
    rw [e45, e46]
    apply Int32.toInt_inj.mp
    rw [cr_sub (by rw [cr_nt (by omega), cr_nt (by omega)]; omega), cr_nt (by omega), cr_nt (by omega), cr_nt (by omega)]
    omega
  refine bk_yX9_skipsNumber_0 hτ h ?_
  have etwo : ((2 : Int32) < nI (t.2 - t.1)) ↔ 2 < t.2 - t.1 := cr_nlt (a := 2) (by omega) (by omega)
  have ele : (I 200 5 ≤ I 200 45) ↔ cr_mL I ≤ t.1 := by rw [eL, e45]; exact cr_nlq (by omega) (by omega)
  have e45c : (I 200 45).toNatClampNeg = t.1 := by rw [e45]; exact cr_nc (by omega)
  refine ⟨fun _ => trivial, fun c => ⟨?_, trivial⟩, ?_⟩
  · rw [ele] at c
    rw [e45]
    exact cr_ix (by omega) (by omega)
  have eN : (if (I 200 5) ≤ (I 200 45) then (0 : Int32) else (if (f_yX9_sort τ (I 205 (I 200 45).toNatClampNeg) I) = (2 : Int32) then (if (2 : Int32) < ((I 200 46) - (I 200 45)) then (0 : Int32) else (1 : Int32)) else (0 : Int32))) = if cr_isN (I 205) (cr_mL I) t = true then 1 else 0 := by
    simp only [ele, cr_srt_2, esub, etwo, e45c]
    unfold cr_isN
    by_cases q1 : cr_mL I ≤ t.1
    · rw [if_pos q1, decide_eq_false (by omega), Bool.false_and, Bool.false_and]
      rfl
    · rw [if_neg q1, decide_eq_true (by omega), Bool.true_and]
      by_cases q2 : cr_kdS (I 205 t.1) = 1
      · rw [if_pos q2, decide_eq_true q2, Bool.true_and]
        by_cases q3 : 2 < t.2 - t.1
        · rw [if_pos q3, decide_eq_false (by omega)]; rfl
        · rw [if_neg q3, decide_eq_true (by omega)]; rfl
      · rw [if_neg q2, decide_eq_false q2, Bool.false_and]; rfl
  rw [eN]
  rintro v1 rfl J1 rfl
  have f1 : cr_F cr_P4 I (cr_up I 200 47 0) := cr_F.rf.up (by unfold cr_P4; omega)
  have m1 : cr_mt (cr_up I 200 47 0) t := hp2.eqv (cr_up_k (by decide)) (cr_up_k (by decide)) (cr_up_k (by decide)) (cr_up_k (by decide))
  rw [show cr_up I 200 47 (0 : Int32) 200 45 = nI t.1 by rw [cr_up_k (by decide), e45]]
  rintro v2 rfl
  by_cases q : cr_isN (I 205) (cr_mL I) t = true
  · rw [if_pos q]
    refine cr_loop (fun k => ∀ J, cr_F cr_P4 I J → cr_mt J t → J 200 47 = cr_nmF (I 205) t.1 k → cr_V Γ 56 [.ref 200, .int 1, .int (nI (t.1 + k))] [] J (cr_rf τ) 247) (t.2 - t.1) ?_ ?_ 0 (Nat.zero_le _) _ f1 m1 cr_up_s
    · intro J hf hm e47
      have ha := hm.adv (τ := τ)
      refine bk_yX9_skipsNumber_56 hτ h ⟨fun c => absurd c (by decide), fun _ => ⟨fun _ => ⟨fun c => absurd c (by decide), fun _ => ⟨ha.1, fun J4 hJ4 => ⟨Or.inr rfl, ?_⟩⟩⟩, fun c => absurd ?_ c⟩⟩
      · obtain ⟨g1, g2⟩ := ha.2 J4 hJ4
        refine hK _ _ ⟨hf.tr (g1.F (fun b k z => by unfold cr_P4; omega)), fun _ => ⟨rfl, ?_, ?_⟩, fun z => absurd q z⟩
        · rw [g1.L.2.2.2]; exact e47
        · have e1 : J 205 = I 205 := funext fun k => hf 205 k (by unfold cr_P4; omega)
          have e2 : cr_mL J = cr_mL I := by unfold cr_mL; rw [hf 200 5 (by unfold cr_P4; omega)]
          rw [e1, e2] at g2
          exact g2
      · rw [hm.2.1.2.2, cr_nlq (by omega) (by omega)]
        omega
    · intro k hk ih J hf hm e47
      refine bk_yX9_skipsNumber_56 hτ h ⟨fun c => absurd c (by decide), fun _ => ⟨fun c => absurd c ?_, fun _ => ⟨cr_ix (by omega) (by omega), ?_⟩⟩⟩
      · rw [hm.2.1.2.2, cr_nlq (by omega) (by omega)]
        omega
      · rw [cr_nc (show t.1 + k < 100000 by omega), e47, hf 205 _ (by unfold cr_P4; omega)]
        rintro J5 rfl v rfl
        rw [nI_1]
        exact ih _ (hf.up (by unfold cr_P4; omega)) (hm.eqv (cr_up_k (by decide)) (cr_up_k (by decide)) (cr_up_k (by decide)) (cr_up_k (by decide))) cr_up_s
  · rw [if_neg q]
    refine bk_yX9_skipsNumber_56 hτ h ⟨fun _ => ⟨fun _ => ⟨Or.inl rfl, ?_⟩, fun z => absurd rfl z⟩, fun z => absurd rfl z⟩
    exact hK _ _ ⟨f1, fun z => absurd z q, fun _ => ⟨rfl, m1⟩⟩)
def f_yX9_readingWord (τ : Nat → Nat) (I : cr_I) : Int32 := if (f_yX9_isWord τ (16423 : Int64) (3 : Int32) I) = 0 then if (f_yX9_isWord τ (7996030339 : Int64) (7 : Int32) I) = 0 then if (f_yX9_isWord τ (7995856399 : Int64) (7 : Int32) I) = 0 then if (f_yX9_isWord τ (4363795 : Int64) (5 : Int32) I) = 0 then if (f_yX9_isWord τ (4785320 : Int64) (5 : Int32) I) = 0 then if (f_yX9_isWord τ (4495 : Int64) (3 : Int32) I) = 0 then (-1 : Int32) else (5 : Int32) else (4 : Int32) else (3 : Int32) else (2 : Int32) else (1 : Int32) else (0 : Int32)
def p_yX9_readingWord (τ : Nat → Nat) (I : cr_I) : Prop := p_yX9_isWord τ (16423 : Int64) (3 : Int32) I ∧ ((f_yX9_isWord τ (16423 : Int64) (3 : Int32) I) = 0 → (p_yX9_isWord τ (7996030339 : Int64) (7 : Int32) I ∧ ((f_yX9_isWord τ (7996030339 : Int64) (7 : Int32) I) = 0 → (p_yX9_isWord τ (7995856399 : Int64) (7 : Int32) I ∧ ((f_yX9_isWord τ (7995856399 : Int64) (7 : Int32) I) = 0 → (p_yX9_isWord τ (4363795 : Int64) (5 : Int32) I ∧ ((f_yX9_isWord τ (4363795 : Int64) (5 : Int32) I) = 0 → (p_yX9_isWord τ (4785320 : Int64) (5 : Int32) I ∧ ((f_yX9_isWord τ (4785320 : Int64) (5 : Int32) I) = 0 → (p_yX9_isWord τ (4495 : Int64) (3 : Int32) I ∧ ((f_yX9_isWord τ (4495 : Int64) (3 : Int32) I) = 0 → True) ∧ (¬ (f_yX9_isWord τ (4495 : Int64) (3 : Int32) I) = 0 → True))) ∧ (¬ (f_yX9_isWord τ (4785320 : Int64) (5 : Int32) I) = 0 → True))) ∧ (¬ (f_yX9_isWord τ (4363795 : Int64) (5 : Int32) I) = 0 → True))) ∧ (¬ (f_yX9_isWord τ (7995856399 : Int64) (7 : Int32) I) = 0 → True))) ∧ (¬ (f_yX9_isWord τ (7996030339 : Int64) (7 : Int32) I) = 0 → True))) ∧ (¬ (f_yX9_isWord τ (16423 : Int64) (3 : Int32) I) = 0 → True)
abbrev T_yX9_readingWord : cr_T := fun vs I R K => ∃ (τ : Nat → Nat), R = cr_rf τ ∧ cr_tau τ ∧ vs = [.ref 200] ∧ p_yX9_readingWord τ I ∧ K (some (.int (f_yX9_readingWord τ I))) I (cr_rf τ)
theorem C_yX9_readingWord : cr_C yX9_readingWord cX9_readingWord 1 (some .int) (cr_rm0 1 25) 247 247 T_yX9_readingWord := by
  refine cr_C.of (by decide +kernel) (fun vs I R K hT => ?_) (fun Γ K h vs I R hT => ?_)
  · obtain ⟨τ, rfl, hτ, rfl, hyp, hK⟩ := hT
    exact Nat.le_of_ble_eq_true rfl
  · obtain ⟨τ, rfl, hτ, rfl, hyp, hK⟩ := hT
    show cr_V Γ 0 [.ref 200] [] I (cr_rf τ) 247
    refine cr_aload_n h (j := 0) rfl rfl dX9_readingWord_0 ?_
    refine cr_ldc2 h wc_X9_200 dX9_readingWord_1 ?_
    refine cr_iconst h (v := (3 : Int32)) (by decide) dX9_readingWord_4 ?_
    refine cr_callV h (c0 := 9) (T0 := TX9) C_yX9_isWord cZ_yX9_isWord wm_X9_190 wv_yX9_isWord we_yX9_isWord (by decide) rfl rfl (cr_rmS (by decide) (by decide)) (As := [.long (16423 : Int64), .int (3 : Int32)]) rfl (Nat.le_of_ble_eq_true rfl) dX9_readingWord_5 ⟨τ, (16423 : Int64), (3 : Int32), rfl, hτ, rfl, hyp.1, ?_⟩
    have hyp := hyp.2
    show cr_V Γ 8 [.ref 200] [.int (f_yX9_isWord τ (16423 : Int64) (3 : Int32) I)] I (cr_rf τ) 247
    refine cr_if_eq h (tgt := 15) (by decide) dX9_readingWord_8 (fun c1 => ?_) (fun c1 => ?_)
    · have hyp := hyp.1 c1
      refine cr_aload_n h (j := 0) rfl rfl dX9_readingWord_15 ?_
      refine cr_ldc2 h wc_X9_202 dX9_readingWord_16 ?_
      refine cr_bipush h (v := (7 : Int32)) (by decide) dX9_readingWord_19 ?_
      refine cr_callV h (c0 := 9) (T0 := TX9) C_yX9_isWord cZ_yX9_isWord wm_X9_190 wv_yX9_isWord we_yX9_isWord (by decide) rfl rfl (cr_rmS (by decide) (by decide)) (As := [.long (7996030339 : Int64), .int (7 : Int32)]) rfl (Nat.le_of_ble_eq_true rfl) dX9_readingWord_21 ⟨τ, (7996030339 : Int64), (7 : Int32), rfl, hτ, rfl, hyp.1, ?_⟩
      have hyp := hyp.2
      show cr_V Γ 24 [.ref 200] [.int (f_yX9_isWord τ (7996030339 : Int64) (7 : Int32) I)] I (cr_rf τ) 247
      refine cr_if_eq h (tgt := 31) (by decide) dX9_readingWord_24 (fun c2 => ?_) (fun c2 => ?_)
      · have hyp := hyp.1 c2
        refine cr_aload_n h (j := 0) rfl rfl dX9_readingWord_31 ?_
        refine cr_ldc2 h wc_X9_204 dX9_readingWord_32 ?_
        refine cr_bipush h (v := (7 : Int32)) (by decide) dX9_readingWord_35 ?_
        refine cr_callV h (c0 := 9) (T0 := TX9) C_yX9_isWord cZ_yX9_isWord wm_X9_190 wv_yX9_isWord we_yX9_isWord (by decide) rfl rfl (cr_rmS (by decide) (by decide)) (As := [.long (7995856399 : Int64), .int (7 : Int32)]) rfl (Nat.le_of_ble_eq_true rfl) dX9_readingWord_37 ⟨τ, (7995856399 : Int64), (7 : Int32), rfl, hτ, rfl, hyp.1, ?_⟩
        have hyp := hyp.2
        show cr_V Γ 40 [.ref 200] [.int (f_yX9_isWord τ (7995856399 : Int64) (7 : Int32) I)] I (cr_rf τ) 247
        refine cr_if_eq h (tgt := 47) (by decide) dX9_readingWord_40 (fun c3 => ?_) (fun c3 => ?_)
        · have hyp := hyp.1 c3
          refine cr_aload_n h (j := 0) rfl rfl dX9_readingWord_47 ?_
          refine cr_ldc2 h wc_X9_206 dX9_readingWord_48 ?_
          refine cr_iconst h (v := (5 : Int32)) (by decide) dX9_readingWord_51 ?_
          refine cr_callV h (c0 := 9) (T0 := TX9) C_yX9_isWord cZ_yX9_isWord wm_X9_190 wv_yX9_isWord we_yX9_isWord (by decide) rfl rfl (cr_rmS (by decide) (by decide)) (As := [.long (4363795 : Int64), .int (5 : Int32)]) rfl (Nat.le_of_ble_eq_true rfl) dX9_readingWord_52 ⟨τ, (4363795 : Int64), (5 : Int32), rfl, hτ, rfl, hyp.1, ?_⟩
          have hyp := hyp.2
          show cr_V Γ 55 [.ref 200] [.int (f_yX9_isWord τ (4363795 : Int64) (5 : Int32) I)] I (cr_rf τ) 247
          refine cr_if_eq h (tgt := 62) (by decide) dX9_readingWord_55 (fun c4 => ?_) (fun c4 => ?_)
          · have hyp := hyp.1 c4
            refine cr_aload_n h (j := 0) rfl rfl dX9_readingWord_62 ?_
            refine cr_ldc2 h wc_X9_208 dX9_readingWord_63 ?_
            refine cr_iconst h (v := (5 : Int32)) (by decide) dX9_readingWord_66 ?_
            refine cr_callV h (c0 := 9) (T0 := TX9) C_yX9_isWord cZ_yX9_isWord wm_X9_190 wv_yX9_isWord we_yX9_isWord (by decide) rfl rfl (cr_rmS (by decide) (by decide)) (As := [.long (4785320 : Int64), .int (5 : Int32)]) rfl (Nat.le_of_ble_eq_true rfl) dX9_readingWord_67 ⟨τ, (4785320 : Int64), (5 : Int32), rfl, hτ, rfl, hyp.1, ?_⟩
            have hyp := hyp.2
            show cr_V Γ 70 [.ref 200] [.int (f_yX9_isWord τ (4785320 : Int64) (5 : Int32) I)] I (cr_rf τ) 247
            refine cr_if_eq h (tgt := 77) (by decide) dX9_readingWord_70 (fun c5 => ?_) (fun c5 => ?_)
            · have hyp := hyp.1 c5
              refine cr_aload_n h (j := 0) rfl rfl dX9_readingWord_77 ?_
              refine cr_ldc2 h wc_X9_210 dX9_readingWord_78 ?_
              refine cr_iconst h (v := (3 : Int32)) (by decide) dX9_readingWord_81 ?_
              refine cr_callV h (c0 := 9) (T0 := TX9) C_yX9_isWord cZ_yX9_isWord wm_X9_190 wv_yX9_isWord we_yX9_isWord (by decide) rfl rfl (cr_rmS (by decide) (by decide)) (As := [.long (4495 : Int64), .int (3 : Int32)]) rfl (Nat.le_of_ble_eq_true rfl) dX9_readingWord_82 ⟨τ, (4495 : Int64), (3 : Int32), rfl, hτ, rfl, hyp.1, ?_⟩
              have hyp := hyp.2
              show cr_V Γ 85 [.ref 200] [.int (f_yX9_isWord τ (4495 : Int64) (3 : Int32) I)] I (cr_rf τ) 247
              refine cr_if_eq h (tgt := 92) (by decide) dX9_readingWord_85 (fun c6 => ?_) (fun c6 => ?_)
              · have hyp := hyp.1 c6
                refine cr_iconst h (v := (-1 : Int32)) (by decide) dX9_readingWord_92 ?_
                refine cr_iret h rfl rfl rfl dX9_readingWord_93 ?_
                rw [f_yX9_readingWord, if_pos c1, if_pos c2, if_pos c3, if_pos c4, if_pos c5, if_pos c6] at hK
                exact hK
              · have hyp := hyp.2 c6
                refine cr_iconst h (v := (5 : Int32)) (by decide) dX9_readingWord_88 ?_
                refine cr_goto h (tgt := 93) (by decide) dX9_readingWord_89 ?_
                refine cr_iret h rfl rfl rfl dX9_readingWord_93 ?_
                rw [f_yX9_readingWord, if_pos c1, if_pos c2, if_pos c3, if_pos c4, if_pos c5, if_neg c6] at hK
                exact hK
            · have hyp := hyp.2 c5
              refine cr_iconst h (v := (4 : Int32)) (by decide) dX9_readingWord_73 ?_
              refine cr_goto h (tgt := 93) (by decide) dX9_readingWord_74 ?_
              refine cr_iret h rfl rfl rfl dX9_readingWord_93 ?_
              rw [f_yX9_readingWord, if_pos c1, if_pos c2, if_pos c3, if_pos c4, if_neg c5] at hK
              exact hK
          · have hyp := hyp.2 c4
            refine cr_iconst h (v := (3 : Int32)) (by decide) dX9_readingWord_58 ?_
            refine cr_goto h (tgt := 93) (by decide) dX9_readingWord_59 ?_
            refine cr_iret h rfl rfl rfl dX9_readingWord_93 ?_
            rw [f_yX9_readingWord, if_pos c1, if_pos c2, if_pos c3, if_neg c4] at hK
            exact hK
        · have hyp := hyp.2 c3
          refine cr_iconst h (v := (2 : Int32)) (by decide) dX9_readingWord_43 ?_
          refine cr_goto h (tgt := 93) (by decide) dX9_readingWord_44 ?_
          refine cr_iret h rfl rfl rfl dX9_readingWord_93 ?_
          rw [f_yX9_readingWord, if_pos c1, if_pos c2, if_neg c3] at hK
          exact hK
      · have hyp := hyp.2 c2
        refine cr_iconst h (v := (1 : Int32)) (by decide) dX9_readingWord_27 ?_
        refine cr_goto h (tgt := 93) (by decide) dX9_readingWord_28 ?_
        refine cr_iret h rfl rfl rfl dX9_readingWord_93 ?_
        rw [f_yX9_readingWord, if_pos c1, if_neg c2] at hK
        exact hK
    · have hyp := hyp.2 c1
      refine cr_iconst h (v := (0 : Int32)) (by decide) dX9_readingWord_11 ?_
      refine cr_goto h (tgt := 93) (by decide) dX9_readingWord_12 ?_
      refine cr_iret h rfl rfl rfl dX9_readingWord_93 ?_
      rw [f_yX9_readingWord, if_neg c1] at hK
      exact hK
theorem cr_mt.rd {τ : Nat → Nat} {I : cr_I} {t : cr_tk} (h : cr_mt I t) : p_yX9_readingWord τ I ∧ f_yX9_readingWord τ I = cr_rdS (I 205) t := by
  have h4 := h.w (τ := τ) 4 (W := 16423) (n := 3) (by decide) (by decide) (by decide)
  have h5 := h.w (τ := τ) 5 (W := 7996030339) (n := 7) (by decide) (by decide) (by decide)
  have h6 := h.w (τ := τ) 6 (W := 7995856399) (n := 7) (by decide) (by decide) (by decide)
  have h7 := h.w (τ := τ) 7 (W := 4363795) (n := 5) (by decide) (by decide) (by decide)
  have h8 := h.w (τ := τ) 8 (W := 4785320) (n := 5) (by decide) (by decide) (by decide)
  have h9 := h.w (τ := τ) 9 (W := 4495) (n := 3) (by decide) (by decide) (by decide)
  unfold p_yX9_readingWord f_yX9_readingWord cr_rdS
  refine ⟨⟨h4.1, fun _ => ⟨h5.1, fun _ => ⟨h6.1, fun _ => ⟨h7.1, fun _ => ⟨h8.1, fun _ => ⟨h9.1, fun _ => trivial, fun _ => trivial⟩, fun _ => trivial⟩, fun _ => trivial⟩, fun _ => trivial⟩, fun _ => trivial⟩, fun _ => trivial⟩, ?_⟩
  rw [h4.2, h5.2, h6.2, h7.2, h8.2, h9.2]
  by_cases q4 : cr_isW (I 205) t 4 = true
  · simp [q4]
  by_cases q5 : cr_isW (I 205) t 5 = true
  · simp [q4, q5]
  by_cases q6 : cr_isW (I 205) t 6 = true
  · simp [q4, q5, q6]
  by_cases q7 : cr_isW (I 205) t 7 = true
  · simp [q4, q5, q6, q7]
  by_cases q8 : cr_isW (I 205) t 8 = true
  · simp [q4, q5, q6, q7, q8]
  by_cases q9 : cr_isW (I 205) t 9 = true
  · simp [q4, q5, q6, q7, q8, q9]
  · simp [q4, q5, q6, q7, q8, q9]
def t_yX9_readsTest (τ : Nat → Nat) (x1 : Int32) (I : cr_I) (Q : Int32 → cr_I → Prop) : Prop := (0 ≤ x1.toInt ∧ x1.toInt < 30) ∧ (∀ v1 : Int32, v1 = (((4 : Int32) * x1) + (I 209 x1.toNatClampNeg)) → (p_yX9_readingWord τ I ∧ (0 ≤ v1.toInt ∧ v1.toInt < 120) ∧ (∀ J1 : cr_I, J1 = cr_up I 210 v1.toNatClampNeg (f_yX9_readingWord τ I) → ((0 ≤ v1.toInt ∧ v1.toInt < 120) ∧ (¬ (J1 210 v1.toNatClampNeg) = (-1 : Int32) → (p_yX9_token τ J1 ∧ (∀ (J2 : cr_I), q_yX9_token τ J1 J2 → (p_yX9_isWord τ (5979201 : Int64) (5 : Int32) J2 ∧ (∀ v2 : Int32, v2 = (f_yX9_isWord τ (5979201 : Int64) (5 : Int32) J2) → ((¬ v2 = 0 → (p_yX9_token τ J2 ∧ (∀ (J3 : cr_I), q_yX9_token τ J2 J3 → (p_yX9_skipsNumber τ J3 ∧ (∀ (r3 : Int32) (J4 : cr_I), q_yX9_skipsNumber τ J3 r3 J4 → ((¬ r3 = 0 → ((0 ≤ v1.toInt ∧ v1.toInt < 120) ∧ (∀ J5 : cr_I, J5 = cr_up J4 211 v1.toNatClampNeg (if v2 = 0 then (0 : Int32) else (1 : Int32)) → ((0 ≤ v1.toInt ∧ v1.toInt < 120) ∧ (∀ J6 : cr_I, J6 = cr_up J5 212 v1.toNatClampNeg (J5 200 47) → ((0 ≤ x1.toInt ∧ x1.toInt < 30) ∧ (0 ≤ x1.toInt ∧ x1.toInt < 30) ∧ (∀ J7 : cr_I, J7 = cr_up J6 209 x1.toNatClampNeg ((J6 209 x1.toNatClampNeg) + (1 : Int32)) → Q (1 : Int32) J7))))))) ∧ (r3 = 0 → Q (0 : Int32) J4))))))) ∧ (v2 = 0 → (p_yX9_isWord τ (24621218 : Int64) (5 : Int32) J2 ∧ (¬ (f_yX9_isWord τ (24621218 : Int64) (5 : Int32) J2) = 0 → (p_yX9_token τ J2 ∧ (∀ (J9 : cr_I), q_yX9_token τ J2 J9 → (p_yX9_skipsNumber τ J9 ∧ (∀ (r5 : Int32) (J10 : cr_I), q_yX9_skipsNumber τ J9 r5 J10 → ((¬ r5 = 0 → ((0 ≤ v1.toInt ∧ v1.toInt < 120) ∧ (∀ J11 : cr_I, J11 = cr_up J10 211 v1.toNatClampNeg (if v2 = 0 then (0 : Int32) else (1 : Int32)) → ((0 ≤ v1.toInt ∧ v1.toInt < 120) ∧ (∀ J12 : cr_I, J12 = cr_up J11 212 v1.toNatClampNeg (J11 200 47) → ((0 ≤ x1.toInt ∧ x1.toInt < 30) ∧ (0 ≤ x1.toInt ∧ x1.toInt < 30) ∧ (∀ J13 : cr_I, J13 = cr_up J12 209 x1.toNatClampNeg ((J12 209 x1.toNatClampNeg) + (1 : Int32)) → Q (1 : Int32) J13))))))) ∧ (r5 = 0 → Q (0 : Int32) J10))))))) ∧ ((f_yX9_isWord τ (24621218 : Int64) (5 : Int32) J2) = 0 → Q (0 : Int32) J2))))))))) ∧ ((J1 210 v1.toNatClampNeg) = (-1 : Int32) → Q (0 : Int32) J1)))))
abbrev T_yX9_readsTest : cr_T := fun vs I R K => ∃ (τ : Nat → Nat) (x1 : Int32) (Q : Int32 → cr_I → Prop), R = cr_rf τ ∧ cr_tau τ ∧ vs = [.ref 200, .int x1] ∧ t_yX9_readsTest τ x1 I Q ∧ ∀ r J, Q r J → K (some (.int r)) J (cr_rf τ)
theorem C_yX9_readsTest : cr_C yX9_readsTest cX9_readsTest 4 (some .boolean) (cr_rm0 3 62) 247 247 T_yX9_readsTest := by
  refine cr_C.of (by decide +kernel) (fun vs I R K hT => ?_) (fun Γ K h vs I R hT => ?_)
  · obtain ⟨τ, x1, Q, rfl, hτ, rfl, hyp, hK⟩ := hT
    exact Nat.le_of_ble_eq_true rfl
  · obtain ⟨τ, x1, Q, rfl, hτ, rfl, hyp, hK⟩ := hT
    unfold t_yX9_readsTest at hyp
    show cr_V Γ 0 [.ref 200, .int x1, .null, .null] [] I (cr_rf τ) 247
    refine cr_iconst h (v := (4 : Int32)) (by decide) dX9_readsTest_0 ?_
    refine cr_iload_n h (j := 1) rfl rfl dX9_readsTest_1 ?_
    refine cr_imul h dX9_readsTest_2 ?_
    refine cr_aload_n h (j := 0) rfl rfl dX9_readsTest_3 ?_
    refine cr_getR h (k := 9) cr_clsX9 (by decide) rfl rfl wf_X9_34 (by decide) rfl rfl dX9_readsTest_4 ?_
    refine cr_iload_n h (j := 1) rfl rfl dX9_readsTest_7 ?_
    refine cs_ild h (by decide) rfl hyp.1 (q := x1.toNatClampNeg) rfl dX9_readsTest_8 ?_
    have hyp := hyp.2
    refine cr_iadd h dX9_readsTest_9 ?_
    refine cs_i_n h 2 rfl (by decide) rfl dX9_readsTest_10 (fun v1 ev1 => ?_)
    have hyp := hyp v1 ev1
    show cr_V Γ 11 [.ref 200, .int x1, .int v1, .null] [] I (cr_rf τ) 247
    refine cr_aload_n h (j := 0) rfl rfl dX9_readsTest_11 ?_
    refine cr_getR h (k := 10) cr_clsX9 (by decide) rfl rfl wf_X9_37 (by decide) rfl rfl dX9_readsTest_12 ?_
    refine cr_iload_n h (j := 2) rfl rfl dX9_readsTest_15 ?_
    refine cr_aload_n h (j := 0) rfl rfl dX9_readsTest_16 ?_
    refine cr_callV h (c0 := 9) (T0 := TX9) C_yX9_readingWord cZ_yX9_readingWord wm_X9_212 wv_yX9_readingWord we_yX9_readingWord (by decide) rfl rfl (cr_rmS (by decide) (by decide)) (As := []) rfl (Nat.le_of_ble_eq_true rfl) dX9_readsTest_17 ⟨τ, rfl, hτ, rfl, hyp.1, ?_⟩
    have hyp := hyp.2
    show cr_V Γ 20 [.ref 200, .int x1, .int v1, .null] [.int (f_yX9_readingWord τ I), .int v1, .ref 210] I (cr_rf τ) 247
    refine cs_ist h (by decide) (by decide) rfl hyp.1 (q := v1.toNatClampNeg) rfl dX9_readsTest_20 (fun J1 eJ1 => ?_)
    have hyp := hyp.2 J1 eJ1
    refine cr_aload_n h (j := 0) rfl rfl dX9_readsTest_21 ?_
    refine cr_getR h (k := 10) cr_clsX9 (by decide) rfl rfl wf_X9_37 (by decide) rfl rfl dX9_readsTest_22 ?_
    refine cr_iload_n h (j := 2) rfl rfl dX9_readsTest_25 ?_
    refine cs_ild h (by decide) rfl hyp.1 (q := v1.toNatClampNeg) rfl dX9_readsTest_26 ?_
    have hyp := hyp.2
    refine cr_iconst h (v := (-1 : Int32)) (by decide) dX9_readsTest_27 ?_
    refine cr_icmp_ne h (tgt := 33) (by decide) dX9_readsTest_28 (fun c1 => ?_) (fun c1 => ?_)
    · have hyp := hyp.1 c1
      refine cr_aload_n h (j := 0) rfl rfl dX9_readsTest_33 ?_
      refine cr_callV h (c0 := 9) (T0 := TX9) C_yX9_token cZ_yX9_token wm_X9_194 wv_yX9_token we_yX9_token (by decide) rfl rfl (cr_rmS (by decide) (by decide)) (As := []) rfl (Nat.le_of_ble_eq_true rfl) dX9_readsTest_34 ⟨τ, rfl, hτ, rfl, hyp.1, fun J2 q1 => ?_⟩
      have hyp := hyp.2 J2 q1
      show cr_V Γ 37 [.ref 200, .int x1, .int v1, .null] [] J2 (cr_rf τ) 247
      refine cr_aload_n h (j := 0) rfl rfl dX9_readsTest_37 ?_
      refine cr_ldc2 h wc_X9_216 dX9_readsTest_38 ?_
      refine cr_iconst h (v := (5 : Int32)) (by decide) dX9_readsTest_41 ?_
      refine cr_callV h (c0 := 9) (T0 := TX9) C_yX9_isWord cZ_yX9_isWord wm_X9_190 wv_yX9_isWord we_yX9_isWord (by decide) rfl rfl (cr_rmS (by decide) (by decide)) (As := [.long (5979201 : Int64), .int (5 : Int32)]) rfl (Nat.le_of_ble_eq_true rfl) dX9_readsTest_42 ⟨τ, (5979201 : Int64), (5 : Int32), rfl, hτ, rfl, hyp.1, ?_⟩
      have hyp := hyp.2
      show cr_V Γ 45 [.ref 200, .int x1, .int v1, .null] [.int (f_yX9_isWord τ (5979201 : Int64) (5 : Int32) J2)] J2 (cr_rf τ) 247
      refine cs_i_n h 3 rfl (by decide) rfl dX9_readsTest_45 (fun v2 ev2 => ?_)
      have hyp := hyp v2 ev2
      show cr_V Γ 46 [.ref 200, .int x1, .int v1, .int v2] [] J2 (cr_rf τ) 247
      refine cr_iload_n h (j := 3) rfl rfl dX9_readsTest_46 ?_
      refine cr_if_ne h (tgt := 63) (by decide) dX9_readsTest_47 (fun c2 => ?_) (fun c2 => ?_)
      · have hyp := hyp.1 c2
        refine cr_aload_n h (j := 0) rfl rfl dX9_readsTest_63 ?_
        refine cr_callV h (c0 := 9) (T0 := TX9) C_yX9_token cZ_yX9_token wm_X9_194 wv_yX9_token we_yX9_token (by decide) rfl rfl (cr_rmS (by decide) (by decide)) (As := []) rfl (Nat.le_of_ble_eq_true rfl) dX9_readsTest_64 ⟨τ, rfl, hτ, rfl, hyp.1, fun J3 q2 => ?_⟩
        have hyp := hyp.2 J3 q2
        show cr_V Γ 67 [.ref 200, .int x1, .int v1, .int v2] [] J3 (cr_rf τ) 247
        refine cr_aload_n h (j := 0) rfl rfl dX9_readsTest_67 ?_
        refine cr_callV h (c0 := 9) (T0 := TX9) C_yX9_skipsNumber cZ_yX9_skipsNumber wm_X9_220 wv_yX9_skipsNumber we_yX9_skipsNumber (by decide) rfl rfl (cr_rmS (by decide) (by decide)) (As := []) rfl (Nat.le_of_ble_eq_true rfl) dX9_readsTest_68 ⟨τ, rfl, hτ, rfl, hyp.1, fun r3 J4 q3 => ?_⟩
        have hyp := hyp.2 r3 J4 q3
        show cr_V Γ 71 [.ref 200, .int x1, .int v1, .int v2] [.int r3] J4 (cr_rf τ) 247
        refine cr_if_ne h (tgt := 76) (by decide) dX9_readsTest_71 (fun c3 => ?_) (fun c3 => ?_)
        · have hyp := hyp.1 c3
          refine cr_aload_n h (j := 0) rfl rfl dX9_readsTest_76 ?_
          refine cr_getR h (k := 11) cr_clsX9 (by decide) rfl rfl wf_X9_40 (by decide) rfl rfl dX9_readsTest_77 ?_
          refine cr_iload_n h (j := 2) rfl rfl dX9_readsTest_80 ?_
          refine cr_iload_n h (j := 3) rfl rfl dX9_readsTest_81 ?_
          have J8 : cr_V Γ 90 [.ref 200, .int x1, .int v1, .int v2] [.int (if v2 = 0 then (0 : Int32) else (1 : Int32)), .int v1, .ref 211] J4 (cr_rf τ) 247 := by
            refine cs_ist h (by decide) (by decide) rfl hyp.1 (q := v1.toNatClampNeg) rfl dX9_readsTest_90 (fun J5 eJ5 => ?_)
            have hyp := hyp.2 J5 eJ5
            refine cr_aload_n h (j := 0) rfl rfl dX9_readsTest_91 ?_
            refine cr_getR h (k := 12) cr_clsX9 (by decide) rfl rfl wf_X9_43 (by decide) rfl rfl dX9_readsTest_92 ?_
            refine cr_iload_n h (j := 2) rfl rfl dX9_readsTest_95 ?_
            refine cr_aload_n h (j := 0) rfl rfl dX9_readsTest_96 ?_
            refine cr_getI h (k := 47) cr_clsX9 (by decide) rfl rfl wf_X9_197 (by decide) rfl dX9_readsTest_97 ?_
            refine cs_ist h (by decide) (by decide) rfl hyp.1 (q := v1.toNatClampNeg) rfl dX9_readsTest_100 (fun J6 eJ6 => ?_)
            have hyp := hyp.2 J6 eJ6
            refine cr_aload_n h (j := 0) rfl rfl dX9_readsTest_101 ?_
            refine cr_getR h (k := 9) cr_clsX9 (by decide) rfl rfl wf_X9_34 (by decide) rfl rfl dX9_readsTest_102 ?_
            refine cr_iload_n h (j := 1) rfl rfl dX9_readsTest_105 ?_
            refine cr_dup2 h rfl rfl dX9_readsTest_106 ?_
            refine cs_ild h (by decide) rfl hyp.1 (q := x1.toNatClampNeg) rfl dX9_readsTest_107 ?_
            have hyp := hyp.2
            refine cr_iconst h (v := (1 : Int32)) (by decide) dX9_readsTest_108 ?_
            refine cr_iadd h dX9_readsTest_109 ?_
            refine cs_ist h (by decide) (by decide) rfl hyp.1 (q := x1.toNatClampNeg) rfl dX9_readsTest_110 (fun J7 eJ7 => ?_)
            have hyp := hyp.2 J7 eJ7
            refine cr_iconst h (v := (1 : Int32)) (by decide) dX9_readsTest_111 ?_
            refine cr_iret h rfl (by decide) rfl dX9_readsTest_112 ?_
            exact hK _ _ hyp
          refine cr_if_eq h (tgt := 89) (by decide) dX9_readsTest_82 (fun c4 => ?_) (fun c4 => ?_)
          · refine cr_iconst h (v := (0 : Int32)) (by decide) dX9_readsTest_89 ?_
            exact cr_ite (by rw [if_pos c4]) J8
          · refine cr_iconst h (v := (1 : Int32)) (by decide) dX9_readsTest_85 ?_
            refine cr_goto h (tgt := 90) (by decide) dX9_readsTest_86 ?_
            exact cr_ite (by rw [if_neg c4]) J8
        · have hyp := hyp.2 c3
          refine cr_iconst h (v := (0 : Int32)) (by decide) dX9_readsTest_74 ?_
          refine cr_iret h rfl (by decide) rfl dX9_readsTest_75 ?_
          exact hK _ _ hyp
      · have hyp := hyp.2 c2
        refine cr_aload_n h (j := 0) rfl rfl dX9_readsTest_50 ?_
        refine cr_ldc2 h wc_X9_218 dX9_readsTest_51 ?_
        refine cr_iconst h (v := (5 : Int32)) (by decide) dX9_readsTest_54 ?_
        refine cr_callV h (c0 := 9) (T0 := TX9) C_yX9_isWord cZ_yX9_isWord wm_X9_190 wv_yX9_isWord we_yX9_isWord (by decide) rfl rfl (cr_rmS (by decide) (by decide)) (As := [.long (24621218 : Int64), .int (5 : Int32)]) rfl (Nat.le_of_ble_eq_true rfl) dX9_readsTest_55 ⟨τ, (24621218 : Int64), (5 : Int32), rfl, hτ, rfl, hyp.1, ?_⟩
        have hyp := hyp.2
        show cr_V Γ 58 [.ref 200, .int x1, .int v1, .int v2] [.int (f_yX9_isWord τ (24621218 : Int64) (5 : Int32) J2)] J2 (cr_rf τ) 247
        refine cr_if_ne h (tgt := 63) (by decide) dX9_readsTest_58 (fun c5 => ?_) (fun c5 => ?_)
        · have hyp := hyp.1 c5
          refine cr_aload_n h (j := 0) rfl rfl dX9_readsTest_63 ?_
          refine cr_callV h (c0 := 9) (T0 := TX9) C_yX9_token cZ_yX9_token wm_X9_194 wv_yX9_token we_yX9_token (by decide) rfl rfl (cr_rmS (by decide) (by decide)) (As := []) rfl (Nat.le_of_ble_eq_true rfl) dX9_readsTest_64 ⟨τ, rfl, hτ, rfl, hyp.1, fun J9 q4 => ?_⟩
          have hyp := hyp.2 J9 q4
          show cr_V Γ 67 [.ref 200, .int x1, .int v1, .int v2] [] J9 (cr_rf τ) 247
          refine cr_aload_n h (j := 0) rfl rfl dX9_readsTest_67 ?_
          refine cr_callV h (c0 := 9) (T0 := TX9) C_yX9_skipsNumber cZ_yX9_skipsNumber wm_X9_220 wv_yX9_skipsNumber we_yX9_skipsNumber (by decide) rfl rfl (cr_rmS (by decide) (by decide)) (As := []) rfl (Nat.le_of_ble_eq_true rfl) dX9_readsTest_68 ⟨τ, rfl, hτ, rfl, hyp.1, fun r5 J10 q5 => ?_⟩
          have hyp := hyp.2 r5 J10 q5
          show cr_V Γ 71 [.ref 200, .int x1, .int v1, .int v2] [.int r5] J10 (cr_rf τ) 247
          refine cr_if_ne h (tgt := 76) (by decide) dX9_readsTest_71 (fun c6 => ?_) (fun c6 => ?_)
          · have hyp := hyp.1 c6
            refine cr_aload_n h (j := 0) rfl rfl dX9_readsTest_76 ?_
            refine cr_getR h (k := 11) cr_clsX9 (by decide) rfl rfl wf_X9_40 (by decide) rfl rfl dX9_readsTest_77 ?_
            refine cr_iload_n h (j := 2) rfl rfl dX9_readsTest_80 ?_
            refine cr_iload_n h (j := 3) rfl rfl dX9_readsTest_81 ?_
            have J14 : cr_V Γ 90 [.ref 200, .int x1, .int v1, .int v2] [.int (if v2 = 0 then (0 : Int32) else (1 : Int32)), .int v1, .ref 211] J10 (cr_rf τ) 247 := by
              refine cs_ist h (by decide) (by decide) rfl hyp.1 (q := v1.toNatClampNeg) rfl dX9_readsTest_90 (fun J11 eJ11 => ?_)
              have hyp := hyp.2 J11 eJ11
              refine cr_aload_n h (j := 0) rfl rfl dX9_readsTest_91 ?_
              refine cr_getR h (k := 12) cr_clsX9 (by decide) rfl rfl wf_X9_43 (by decide) rfl rfl dX9_readsTest_92 ?_
              refine cr_iload_n h (j := 2) rfl rfl dX9_readsTest_95 ?_
              refine cr_aload_n h (j := 0) rfl rfl dX9_readsTest_96 ?_
              refine cr_getI h (k := 47) cr_clsX9 (by decide) rfl rfl wf_X9_197 (by decide) rfl dX9_readsTest_97 ?_
              refine cs_ist h (by decide) (by decide) rfl hyp.1 (q := v1.toNatClampNeg) rfl dX9_readsTest_100 (fun J12 eJ12 => ?_)
              have hyp := hyp.2 J12 eJ12
              refine cr_aload_n h (j := 0) rfl rfl dX9_readsTest_101 ?_
              refine cr_getR h (k := 9) cr_clsX9 (by decide) rfl rfl wf_X9_34 (by decide) rfl rfl dX9_readsTest_102 ?_
              refine cr_iload_n h (j := 1) rfl rfl dX9_readsTest_105 ?_
              refine cr_dup2 h rfl rfl dX9_readsTest_106 ?_
              refine cs_ild h (by decide) rfl hyp.1 (q := x1.toNatClampNeg) rfl dX9_readsTest_107 ?_
              have hyp := hyp.2
              refine cr_iconst h (v := (1 : Int32)) (by decide) dX9_readsTest_108 ?_
              refine cr_iadd h dX9_readsTest_109 ?_
              refine cs_ist h (by decide) (by decide) rfl hyp.1 (q := x1.toNatClampNeg) rfl dX9_readsTest_110 (fun J13 eJ13 => ?_)
              have hyp := hyp.2 J13 eJ13
              refine cr_iconst h (v := (1 : Int32)) (by decide) dX9_readsTest_111 ?_
              refine cr_iret h rfl (by decide) rfl dX9_readsTest_112 ?_
              exact hK _ _ hyp
            refine cr_if_eq h (tgt := 89) (by decide) dX9_readsTest_82 (fun c7 => ?_) (fun c7 => ?_)
            · refine cr_iconst h (v := (0 : Int32)) (by decide) dX9_readsTest_89 ?_
              exact cr_ite (by rw [if_pos c7]) J14
            · refine cr_iconst h (v := (1 : Int32)) (by decide) dX9_readsTest_85 ?_
              refine cr_goto h (tgt := 90) (by decide) dX9_readsTest_86 ?_
              exact cr_ite (by rw [if_neg c7]) J14
          · have hyp := hyp.2 c6
            refine cr_iconst h (v := (0 : Int32)) (by decide) dX9_readsTest_74 ?_
            refine cr_iret h rfl (by decide) rfl dX9_readsTest_75 ?_
            exact hK _ _ hyp
        · have hyp := hyp.2 c5
          refine cr_iconst h (v := (0 : Int32)) (by decide) dX9_readsTest_61 ?_
          refine cr_iret h rfl (by decide) rfl dX9_readsTest_62 ?_
          exact hK _ _ hyp
    · have hyp := hyp.2 c1
      refine cr_iconst h (v := (0 : Int32)) (by decide) dX9_readsTest_31 ?_
      refine cr_iret h rfl (by decide) rfl dX9_readsTest_32 ?_
      exact hK _ _ hyp
def cr_Pt (line k b i : Nat) : Prop := (b = 200 ∧ 44 ≤ i ∧ i ≤ 47) ∨ (b = 209 ∧ i = line) ∨ ((b = 210 ∨ b = 211 ∨ b = 212) ∧ i = k)
theorem cw_readsTest {τ : Nat → Nat} {I : cr_I} {t : cr_tk} {x1 : Int32} {n : Nat} {Q : Int32 → cr_I → Prop} (h : cr_mt I t) (hx : 0 ≤ x1.toInt ∧ x1.toInt < 30) (hn : I 209 x1.toNatClampNeg = nI n) (hn4 : n < 4)
    (hQ : ∀ r J, cr_F (cr_Pt x1.toNatClampNeg (4 * x1.toNatClampNeg + n)) I J → cr_mt J (cr_tsS (I 205) (cr_mL I) t).2.1 → ((cr_tsS (I 205) (cr_mL I) t).1 = true → r = 1 ∧ J 209 x1.toNatClampNeg = nI (n + 1) ∧ J 210 (4 * x1.toNatClampNeg + n) = (cr_tsS (I 205) (cr_mL I) t).2.2.1 ∧ J 211 (4 * x1.toNatClampNeg + n) = (cr_tsS (I 205) (cr_mL I) t).2.2.2.1 ∧ J 212 (4 * x1.toNatClampNeg + n) = (cr_tsS (I 205) (cr_mL I) t).2.2.2.2) → (¬ (cr_tsS (I 205) (cr_mL I) t).1 = true → r = 0) → Q r J) : t_yX9_readsTest τ x1 I Q := by
  obtain ⟨ex, hx30⟩ := cr_ofI (B := 29) hx.1 (by omega)
  have ev1 : (4 : Int32) * x1 + nI n = nI (4 * x1.toNatClampNeg + n) := by
    rw [ex]
    rw [show (4 : Int32) = nI 4 from rfl, pk_mul, nI_add, cr_nc (by omega)]
  have hk : (0 : Int) ≤ (nI (4 * x1.toNatClampNeg + n)).toInt ∧ (nI (4 * x1.toNatClampNeg + n)).toInt < 120 := cr_ix (by omega) (by omega)
  have hkc : (nI (4 * x1.toNatClampNeg + n)).toNatClampNeg = 4 * x1.toNatClampNeg + n := cr_nc (by omega)
  refine ⟨hx, ?_⟩
  rw [hn, ev1]
  rintro v1 rfl
  rw [hkc]
  have hr := h.rd (τ := τ)
  refine ⟨hr.1, hk, ?_⟩
  rw [hr.2]
  generalize hl : x1.toNatClampNeg = line at *
  generalize hke : 4 * line + n = k at *
  unfold cr_tsS at hQ
  rintro J1 rfl
  rw [cr_up_s]
  generalize hJ1 : cr_up I 210 k (cr_rdS (I 205) t) = J1
  have f1 : cr_F (cr_Pt line k) I J1 := by rw [← hJ1]; exact cr_F.rf.up (by unfold cr_Pt; omega)
  have m1 : cr_mt J1 t := by rw [← hJ1]; exact h.eqv (cr_up_b (by decide)) (cr_up_b (by decide)) (cr_up_b (by decide)) (cr_up_b (by decide))
  have b1 : J1 205 = I 205 := by rw [← hJ1]; exact cr_up_row_ne (by decide)
  have l1 : cr_mL J1 = cr_mL I := by rw [← hJ1]; unfold cr_mL; rw [cr_up_b (by decide)]
  have r1 : J1 210 k = cr_rdS (I 205) t := by rw [← hJ1, cr_up_s]
  have n1 : J1 209 line = nI n := by rw [← hJ1, cr_up_b (by decide), hn]
  refine ⟨hk, fun c => ?_, fun c => ?_⟩
  · simp only [if_neg c] at hQ
    have ha := m1.adv (τ := τ)
    refine ⟨ha.1, fun J2 hJ2 => ?_⟩
    obtain ⟨g1, g2⟩ := ha.2 J2 hJ2
    rw [b1, l1] at g2
    have f2 : cr_F (cr_Pt line k) I J2 := f1.tr (g1.F (fun b k z => by unfold cr_Pt; omega))
    have b2 : J2 205 = I 205 := by rw [g1.L.2.1, b1]
    have l2 : cr_mL J2 = cr_mL I := by rw [g1.L.1, l1]
    have h10 := g2.w (τ := τ) 10 (W := 5979201) (n := 5) (by decide) (by decide) (by decide)
    have h11 := g2.w (τ := τ) 11 (W := 24621218) (n := 5) (by decide) (by decide) (by decide)
    rw [b2] at h10 h11
    have tail : ∀ v2 : Int32, (cr_isN (I 205) (cr_mL I) (cr_nx (I 205) (cr_mL I) (cr_nx (I 205) (cr_mL I) t)) = true → ∀ J, cr_F (cr_Pt line k) I J → cr_mt J (cr_nx (I 205) (cr_mL I) (cr_nx (I 205) (cr_mL I) (cr_nx (I 205) (cr_mL I) t))) → J 209 line = nI (n + 1) → J 210 k = cr_rdS (I 205) t → J 211 k = (if v2 = 0 then 0 else 1) → J 212 k = cr_num (I 205) (cr_nx (I 205) (cr_mL I) (cr_nx (I 205) (cr_mL I) t)) → Q 1 J) → (¬ cr_isN (I 205) (cr_mL I) (cr_nx (I 205) (cr_mL I) (cr_nx (I 205) (cr_mL I) t)) = true → ∀ J, cr_F (cr_Pt line k) I J → cr_mt J (cr_nx (I 205) (cr_mL I) (cr_nx (I 205) (cr_mL I) t)) → Q 0 J) → (p_yX9_token τ J2 ∧ (∀ (J3 : cr_I), q_yX9_token τ J2 J3 → (p_yX9_skipsNumber τ J3 ∧ (∀ (r3 : Int32) (J4 : cr_I), q_yX9_skipsNumber τ J3 r3 J4 → ((¬ r3 = 0 → ((0 ≤ (nI k).toInt ∧ (nI k).toInt < 120) ∧ (∀ J5 : cr_I, J5 = cr_up J4 211 k (if v2 = 0 then (0 : Int32) else (1 : Int32)) → ((0 ≤ (nI k).toInt ∧ (nI k).toInt < 120) ∧ (∀ J6 : cr_I, J6 = cr_up J5 212 k (J5 200 47) → ((0 ≤ x1.toInt ∧ x1.toInt < 30) ∧ (0 ≤ x1.toInt ∧ x1.toInt < 30) ∧ (∀ J7 : cr_I, J7 = cr_up J6 209 line ((J6 209 line) + (1 : Int32)) → Q (1 : Int32) J7))))))) ∧ (r3 = 0 → Q (0 : Int32) J4)))))) := by
      intro v2 k1 k0
      have ha2 := g2.adv (τ := τ)
      refine ⟨ha2.1, fun J3 hJ3 => ?_⟩
      obtain ⟨g3, g4⟩ := ha2.2 J3 hJ3
      rw [b2, l2] at g4
      have f3 : cr_F (cr_Pt line k) I J3 := f2.tr (g3.F (fun b k z => by unfold cr_Pt; omega))
      have b3 : J3 205 = I 205 := by rw [g3.L.2.1, b2]
      have l3 : cr_mL J3 = cr_mL I := by rw [g3.L.1, l2]
      have n3 : J3 209 line = nI n := by rw [g3 209 line (by omega), g1 209 line (by omega), n1]
      have r3' : J3 210 k = cr_rdS (I 205) t := by rw [g3 210 k (by omega), g1 210 k (by omega), r1]
      have t3 := g4.tk
      refine ⟨by unfold p_yX9_skipsNumber; rw [t3]; exact g4, fun r J4 hq => ?_⟩
      unfold q_yX9_skipsNumber at hq
      rw [t3, b3, l3] at hq
      obtain ⟨f34, hy, hno⟩ := hq
      have f4 : cr_F (cr_Pt line k) I J4 := f3.tr (f34.wd (fun b k z => by unfold cr_P4 at z; unfold cr_Pt; omega))
      by_cases q : cr_isN (I 205) (cr_mL I) (cr_nx (I 205) (cr_mL I) (cr_nx (I 205) (cr_mL I) t)) = true
      · obtain ⟨rfl, e47, g5⟩ := hy q
        refine ⟨fun _ => ⟨hk, ?_⟩, fun z => absurd z (by decide)⟩
        rintro J5 rfl
        refine ⟨hk, ?_⟩
        rw [cr_up_b (show (200 : Nat) ≠ 211 by decide), e47]
        rintro J6 rfl
        refine ⟨hx, hx, ?_⟩
        rw [cr_up_b (show (209 : Nat) ≠ 212 by decide), cr_up_b (show (209 : Nat) ≠ 211 by decide), f34 209 line (by unfold cr_P4; omega), n3, nI_1]
        rintro J7 rfl
        refine k1 q _ (((f4.up (by unfold cr_Pt; omega)).up (by unfold cr_Pt; omega)).up (by unfold cr_Pt; omega)) (g5.eqv ?_ ?_ ?_ ?_) cr_up_s ?_ ?_ ?_
        · rw [cr_up_b (by decide), cr_up_b (by decide), cr_up_b (by decide)]
        · rw [cr_up_b (by decide), cr_up_b (by decide), cr_up_b (by decide)]
        · rw [cr_up_b (by decide), cr_up_b (by decide), cr_up_b (by decide)]
        · rw [cr_up_b (by decide), cr_up_b (by decide), cr_up_b (by decide)]
        · rw [cr_up_b (by decide), cr_up_b (by decide), cr_up_b (by decide), f34 210 k (by unfold cr_P4; omega), r3']
        · rw [cr_up_b (by decide), cr_up_b (by decide), cr_up_s]
        · rw [cr_up_b (by decide), cr_up_s]
      · obtain ⟨rfl, g5⟩ := hno q
        exact ⟨fun z => absurd rfl z, fun _ => k0 q J4 f4 g5⟩
    rw [h10.2, h11.2]
    refine ⟨h10.1, ?_⟩
    rintro v2 rfl
    by_cases q10 : cr_isW (I 205) (cr_nx (I 205) (cr_mL I) t) 10 = true
    · simp only [if_pos q10] at hQ ⊢
      refine ⟨fun _ => tail 1 (fun q J a1 a2 a3 a4 a5 a6 => ?_) (fun q J a1 a2 => ?_), fun z => absurd z (by simp)⟩
      · simp only [if_pos q] at hQ
        exact hQ 1 J a1 a2 (fun _ => ⟨rfl, a3, a4, a5, a6⟩) (fun z => (z (by simp)).elim)
      · simp only [if_neg q] at hQ
        exact hQ 0 J a1 a2 (fun z => absurd z (by simp)) (fun _ => rfl)
    · simp only [if_neg q10] at hQ ⊢
      refine ⟨fun z => (z (by simp)).elim, fun _ => ⟨h11.1, ?_⟩⟩
      by_cases q11 : cr_isW (I 205) (cr_nx (I 205) (cr_mL I) t) 11 = true
      · simp only [if_pos q11] at hQ ⊢
        refine ⟨fun _ => tail 0 (fun q J a1 a2 a3 a4 a5 a6 => ?_) (fun q J a1 a2 => ?_), fun z => absurd z (by simp)⟩
        · simp only [if_pos q] at hQ
          exact hQ 1 J a1 a2 (fun _ => ⟨rfl, a3, a4, a5, a6⟩) (fun z => (z (by simp)).elim)
        · simp only [if_neg q] at hQ
          exact hQ 0 J a1 a2 (fun z => absurd z (by simp)) (fun _ => rfl)
      · simp only [if_neg q11] at hQ ⊢
        exact ⟨fun z => (z (by simp)).elim, fun _ => hQ 0 J2 f2 g2 (fun z => absurd z (by simp)) (fun _ => rfl)⟩
  · simp only [if_pos c] at hQ
    exact hQ 0 J1 f1 m1 (fun z => absurd z (by simp)) (fun _ => rfl)
