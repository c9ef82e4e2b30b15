/-! tokens -/
def cr_kdS (c : Int32) : Int32 := f_yX7_kindOf (fun _ => 0) c (fun _ _ => 0)
theorem cr_kdS_eq {τ : Nat → Nat} {c : Int32} {I : cr_I} : f_yX7_kindOf τ c I = cr_kdS c := rfl
theorem cr_kdS_3 (c : Int32) : cr_kdS c = 0 ∨ cr_kdS c = 1 ∨ cr_kdS c = 2 := by
  unfold cr_kdS f_yX7_kindOf
  split
  · split
    · exact Or.inr (Or.inr rfl)
    · exact Or.inr (Or.inl rfl)
  · split
    · split
      · exact Or.inr (Or.inr rfl)
      · exact Or.inr (Or.inl rfl)
    · exact Or.inl rfl
def cr_skF (B : Nat → Int32) (L : Nat) : Nat → Nat → Nat
  | 0, p => p
  | m + 1, p => if p < L ∧ B p = 32 then cr_skF B L m (p + 1) else p
def cr_sk (B : Nat → Int32) (L p : Nat) : Nat := cr_skF B L (L - p) p
theorem cr_sk_y {B : Nat → Int32} {L p : Nat} (h : p < L) (e : B p = 32) : cr_sk B L p = cr_sk B L (p + 1) := by
  unfold cr_sk
  rw [show L - p = (L - (p + 1)) + 1 by omega, cr_skF, if_pos ⟨h, e⟩]
theorem cr_sk_n {B : Nat → Int32} {L p : Nat} (h : ¬ (p < L ∧ B p = 32)) : cr_sk B L p = p := by
  unfold cr_sk
  cases L - p with
  | zero => rfl
  | succ m => rw [cr_skF, if_neg h]
theorem cr_skF_le {B : Nat → Int32} {L : Nat} : ∀ m p, p ≤ L → p ≤ cr_skF B L m p ∧ cr_skF B L m p ≤ L
  | 0, p, h => ⟨Nat.le_refl _, h⟩
  | m + 1, p, h => by
    rw [cr_skF]
    split
    · rename_i q
      have := cr_skF_le (B := B) (L := L) m (p + 1) (by omega)
      omega
    · exact ⟨Nat.le_refl _, h⟩
theorem cr_sk_le {B : Nat → Int32} {L p : Nat} (h : p ≤ L) : p ≤ cr_sk B L p ∧ cr_sk B L p ≤ L := cr_skF_le _ _ h
def cr_runF (B : Nat → Int32) (L : Nat) (k : Int32) : Nat → Nat → Nat
  | 0, p => p
  | m + 1, p => if p < L ∧ cr_kdS (B p) = k then cr_runF B L k m (p + 1) else p
def cr_run (B : Nat → Int32) (L : Nat) (k : Int32) (p : Nat) : Nat := cr_runF B L k (L - p) p
theorem cr_run_y {B : Nat → Int32} {L p : Nat} {k : Int32} (h : p < L) (e : cr_kdS (B p) = k) : cr_run B L k p = cr_run B L k (p + 1) := by
  unfold cr_run
  rw [show L - p = (L - (p + 1)) + 1 by omega, cr_runF, if_pos ⟨h, e⟩]
theorem cr_run_n {B : Nat → Int32} {L p : Nat} {k : Int32} (h : ¬ (p < L ∧ cr_kdS (B p) = k)) : cr_run B L k p = p := by
  unfold cr_run
  cases L - p with
  | zero => rfl
  | succ m => rw [cr_runF, if_neg h]
theorem cr_runF_le {B : Nat → Int32} {L : Nat} {k : Int32} : ∀ m p, p ≤ L → p ≤ cr_runF B L k m p ∧ cr_runF B L k m p ≤ L
  | 0, p, h => ⟨Nat.le_refl _, h⟩
  | m + 1, p, h => by
    rw [cr_runF]
    split
    · rename_i q
      have := cr_runF_le (B := B) (L := L) (k := k) m (p + 1) (by omega)
      omega
    · exact ⟨Nat.le_refl _, h⟩
theorem cr_run_le {B : Nat → Int32} {L p : Nat} {k : Int32} (h : p ≤ L) : p ≤ cr_run B L k p ∧ cr_run B L k p ≤ L := cr_runF_le _ _ h
def cr_te (B : Nat → Int32) (L s : Nat) : Nat := if s < L then (if cr_kdS (B s) = 2 then s + 1 else cr_run B L (cr_kdS (B s)) (s + 1)) else s
abbrev cr_tk : Type := Nat × Nat
def cr_nx (B : Nat → Int32) (L : Nat) (t : cr_tk) : cr_tk := (cr_sk B L t.2, cr_te B L (cr_sk B L t.2))
def cr_tok (L : Nat) (t : cr_tk) : Prop := t.1 ≤ t.2 ∧ t.2 ≤ L
theorem cr_te_le {B : Nat → Int32} {L s : Nat} (h : s ≤ L) : s ≤ cr_te B L s ∧ cr_te B L s ≤ L := by
  unfold cr_te
  split
  · split
    · omega
    · rename_i q _
      have := cr_run_le (B := B) (k := cr_kdS (B s)) (show s + 1 ≤ L by omega)
      omega
  · omega
theorem cr_nx_ok {B : Nat → Int32} {L : Nat} {t : cr_tk} (h : t.2 ≤ L) : cr_tok L (cr_nx B L t) := by
  have h1 := cr_sk_le (B := B) h
  exact cr_te_le h1.2
/-- a token of one byte where it is a sign -/
theorem cr_te_sign {B : Nat → Int32} {L s : Nat} (h : s < L) (e : cr_kdS (B s) = 2) : cr_te B L s = s + 1 := by
  unfold cr_te
  rw [if_pos h, if_pos e]
/-! words -/
def cr_txc (w k : Nat) : Int32 := (((cr_txB.getD w []).getD k 0 &&& 255).toUInt32 % 65536).toInt32
def cr_eqF (B : Nat → Int32) (s w : Nat) : Nat → Bool
  | 0 => true
  | k + 1 => cr_eqF B s w k && decide (B (s + k) = cr_txc w k)
def cr_isW (B : Nat → Int32) (t : cr_tk) (w : Nat) : Bool := decide (t.2 = t.1 + cr_txL.getD w 0) && cr_eqF B t.1 w (cr_txL.getD w 0)
theorem cr_eqF_f {B : Nat → Int32} {s w k : Nat} (h : ¬ B (s + k) = cr_txc w k) : ∀ n, k < n → cr_eqF B s w n = false
  | 0, hk => absurd hk (Nat.not_lt_zero _)
  | n + 1, hk => by
    rw [cr_eqF]
    by_cases e : k = n
    · subst e
      rw [decide_eq_false h, Bool.and_false]
    · rw [cr_eqF_f h n (by omega), Bool.false_and]
theorem cr_eqF_t {B : Nat → Int32} {s w : Nat} : ∀ n, cr_eqF B s w n = true → ∀ k, k < n → B (s + k) = cr_txc w k
  | 0, _, k, hk => absurd hk (Nat.not_lt_zero _)
  | n + 1, h, k, hk => by
    rw [cr_eqF, Bool.and_eq_true] at h
    by_cases e : k = n
    · subst e
      exact of_decide_eq_true h.2
    · exact cr_eqF_t n h.1 k (by omega)
/-! numbers -/
def cr_nmF (B : Nat → Int32) (s : Nat) : Nat → Int32
  | 0 => 0
  | k + 1 => 10 * cr_nmF B s k + B (s + k) - 48
def cr_num (B : Nat → Int32) (t : cr_tk) : Int32 := cr_nmF B t.1 (t.2 - t.1)
def cr_isN (B : Nat → Int32) (L : Nat) (t : cr_tk) : Bool := decide (t.1 < L) && decide (cr_kdS (B t.1) = 1) && decide (t.2 - t.1 ≤ 2)
/-! the class's tokens -/
def cr_tL (I : cr_I) : Nat := (I 1 1).toNatClampNeg
def cr_tt (I : cr_I) : cr_tk := ((I 1 3).toNatClampNeg, (I 1 4).toNatClampNeg)
def cr_tx (I : cr_I) (t : cr_tk) : cr_I := cr_up (cr_up I 1 3 (nI t.1)) 1 4 (nI t.2)
theorem cr_tx_3 {I : cr_I} {t : cr_tk} : cr_tx I t 1 3 = nI t.1 := by unfold cr_tx; rw [cr_up_k (by decide), cr_up_s]
theorem cr_tx_4 {I : cr_I} {t : cr_tk} : cr_tx I t 1 4 = nI t.2 := by unfold cr_tx; rw [cr_up_s]
theorem cr_tx_b {I : cr_I} {t : cr_tk} {b k : Nat} (h : b ≠ 1) : cr_tx I t b k = I b k := by unfold cr_tx; rw [cr_up_b h, cr_up_b h]
theorem cr_tx_r {I : cr_I} {t : cr_tk} {b : Nat} (h : b ≠ 1) : cr_tx I t b = I b := funext fun _ => cr_tx_b h
theorem cr_tx_1 {I : cr_I} {t : cr_tk} : cr_tx I t 1 1 = I 1 1 := by unfold cr_tx; rw [cr_up_k (by decide), cr_up_k (by decide)]
theorem cr_up_up {α : Type} {f : Nat → Nat → α} {b k : Nat} {v w : α} : cr_up (cr_up f b k v) b k w = cr_up f b k w := by
  funext b' k'
  unfold cr_up
  split <;> simp_all
theorem cr_up_cm {α : Type} {f : Nat → Nat → α} {b k c l : Nat} {v w : α} (h : b ≠ c ∨ k ≠ l) : cr_up (cr_up f b k v) c l w = cr_up (cr_up f c l w) b k v := by
  funext b' k'
  unfold cr_up
  by_cases h1 : b' = c ∧ k' = l
  · rw [if_pos h1, if_neg (by omega), if_pos h1]
  · rw [if_neg h1]
    by_cases h2 : b' = b ∧ k' = k
    · rw [if_pos h2, if_pos h2]
    · rw [if_neg h2, if_neg h2, if_neg h1]
theorem cr_up_id {α : Type} {f : Nat → Nat → α} {b k : Nat} : cr_up f b k (f b k) = f := by
  funext b' k'
  unfold cr_up
  by_cases h1 : b' = b ∧ k' = k
  · rw [if_pos h1, h1.1, h1.2]
  · rw [if_neg h1]
theorem cr_tx_u3 {I : cr_I} {t : cr_tk} {a : Nat} : cr_up (cr_tx I t) 1 3 (nI a) = cr_tx I (a, t.2) := by
  unfold cr_tx
  rw [cr_up_cm (by decide), cr_up_up]
theorem cr_tx_u4 {I : cr_I} {t : cr_tk} {a : Nat} : cr_up (cr_tx I t) 1 4 (nI a) = cr_tx I (t.1, a) := by
  unfold cr_tx
  rw [cr_up_up]
theorem cr_tx_tx {I : cr_I} {t u : cr_tk} : cr_tx (cr_tx I t) u = cr_tx I u := by
  show cr_up (cr_up (cr_tx I t) 1 3 (nI u.1)) 1 4 (nI u.2) = _
  rw [cr_tx_u3, cr_tx_u4]
theorem cr_tx_id {I : cr_I} (h3 : 0 ≤ (I 1 3).toInt) (h4 : 0 ≤ (I 1 4).toInt) : cr_tx I (cr_tt I) = I := by
  have e3 := (cr_ofI (x := I 1 3) (B := (I 1 3).toNatClampNeg) h3 (by show _ ≤ (((I 1 3).toInt.toNat : Nat) : Int); omega)).1
  have e4 := (cr_ofI (x := I 1 4) (B := (I 1 4).toNatClampNeg) h4 (by show _ ≤ (((I 1 4).toInt.toNat : Nat) : Int); omega)).1
  unfold cr_tx cr_tt
  rw [← e3, ← e4, cr_up_id, cr_up_id]
theorem cr_tx_up {I : cr_I} {t : cr_tk} {b k : Nat} {v : Int32} (h : b ≠ 1) : cr_up (cr_tx I t) b k v = cr_tx (cr_up I b k v) t := by
  unfold cr_tx
  rw [cr_up_cm (Or.inl (Ne.symm h)), cr_up_cm (Or.inl (Ne.symm h))]
/-- what a walk over the text needs -/
def cr_Lok (I : cr_I) : Prop := 0 ≤ (I 1 1).toInt ∧ (I 1 1).toInt ≤ 160
def cr_tkok (I : cr_I) : Prop := cr_Lok I ∧ (0 ≤ (I 1 3).toInt ∧ (I 1 3).toInt ≤ (I 1 4).toInt) ∧ (I 1 4).toInt ≤ (I 1 1).toInt
def p_yX7_advance (τ : Nat → Nat) (I : cr_I) : Prop := cr_Lok I ∧ 0 ≤ (I 1 4).toInt ∧ (I 1 4).toInt ≤ (I 1 1).toInt
def q_yX7_advance (τ : Nat → Nat) (I J : cr_I) : Prop := J = cr_tx I (cr_nx (I 2) (cr_tL I) (cr_tt I))
theorem bk_yX7_advance_0 {Γ : cr_G} {K : cr_K} {τ : Nat → Nat} {I : cr_I}  (hτ : cr_tau τ)  (h : cr_Ok yX7_advance cX7_advance 2 none (cr_rm0 2 40) K 247 247 Γ) (hyp : ∀ J1 : cr_I, J1 = cr_up I 1 3 (I 1 4) → cr_V Γ 8 [.ref 1, .null] [] J1 (cr_rf τ) 247) : cr_V Γ 0 [.ref 1, .null] [] I (cr_rf τ) 247 := by
  refine cr_aload_n h (j := 0) rfl rfl dX7_advance_0 ?_
  refine cr_aload_n h (j := 0) rfl rfl dX7_advance_1 ?_
  refine cr_getI h (k := 4) cr_clsX7 (by decide) rfl rfl wf_X7_29 (by decide) rfl dX7_advance_2 ?_
  refine cs_put h (k := 3) cr_clsX7 (by decide) rfl rfl rfl rfl wf_X7_26 (by decide) (by decide) rfl dX7_advance_5 (fun J1 eJ1 => ?_)
  have hyp := hyp J1 eJ1
  exact cr_weak [true, false] hyp
theorem bk_yX7_advance_8 {Γ : cr_G} {K : cr_K} {τ : Nat → Nat} {I : cr_I}  (hτ : cr_tau τ)  (h : cr_Ok yX7_advance cX7_advance 2 none (cr_rm0 2 40) K 247 247 Γ) (hyp : ((I 1 1) ≤ (I 1 3) → cr_V Γ 46 [.ref 1, .null] [] I (cr_rf τ) 247) ∧ (¬ (I 1 1) ≤ (I 1 3) → ((0 ≤ (I 1 3).toInt ∧ (I 1 3).toInt < 160) ∧ (¬ (I 2 (I 1 3).toNatClampNeg) = (32 : Int32) → cr_V Γ 46 [.ref 1, .null] [] I (cr_rf τ) 247) ∧ ((I 2 (I 1 3).toNatClampNeg) = (32 : Int32) → (∀ J2 : cr_I, J2 = cr_up I 1 3 ((I 1 3) + (1 : Int32)) → cr_V Γ 8 [.ref 1, .null] [] J2 (cr_rf τ) 247))))) : cr_V Γ 8 [.ref 1, .null] [] I (cr_rf τ) 247 := by
  refine cr_aload_n h (j := 0) rfl rfl dX7_advance_8 ?_
  refine cr_getI h (k := 3) cr_clsX7 (by decide) rfl rfl wf_X7_26 (by decide) rfl dX7_advance_9 ?_
  refine cr_aload_n h (j := 0) rfl rfl dX7_advance_12 ?_
  refine cr_getI h (k := 1) cr_clsX7 (by decide) rfl rfl wf_X7_15 (by decide) rfl dX7_advance_13 ?_
  refine cr_icmp_ge h (tgt := 46) (by decide) dX7_advance_16 (fun c1 => ?_) (fun c1 => ?_)
  · have hyp := hyp.1 c1
    exact cr_weak [true, false] hyp
  · have hyp := hyp.2 c1
    refine cr_aload_n h (j := 0) rfl rfl dX7_advance_19 ?_
    refine cr_getR h (k := 0) cr_clsX7 (by decide) rfl rfl wf_X7_9 (by decide) rfl rfl dX7_advance_20 ?_
    refine cr_aload_n h (j := 0) rfl rfl dX7_advance_23 ?_
    refine cr_getI h (k := 3) cr_clsX7 (by decide) rfl rfl wf_X7_26 (by decide) rfl dX7_advance_24 ?_
    refine cs_ild h (by decide) rfl hyp.1 (q := (I 1 3).toNatClampNeg) rfl dX7_advance_27 ?_
    have hyp := hyp.2
    refine cr_bipush h (v := (32 : Int32)) (by decide) dX7_advance_28 ?_
    refine cr_icmp_ne h (tgt := 46) (by decide) dX7_advance_30 (fun c2 => ?_) (fun c2 => ?_)
    · have hyp := hyp.1 c2
      exact cr_weak [true, false] hyp
    · have hyp := hyp.2 c2
      refine cr_aload_n h (j := 0) rfl rfl dX7_advance_33 ?_
      refine cr_dup h rfl dX7_advance_34 ?_
      refine cr_getI h (k := 3) cr_clsX7 (by decide) rfl rfl wf_X7_26 (by decide) rfl dX7_advance_35 ?_
      refine cr_iconst h (v := (1 : Int32)) (by decide) dX7_advance_38 ?_
      refine cr_iadd h dX7_advance_39 ?_
      refine cs_put h (k := 3) cr_clsX7 (by decide) rfl rfl rfl rfl wf_X7_26 (by decide) (by decide) rfl dX7_advance_40 (fun J2 eJ2 => ?_)
      have hyp := hyp J2 eJ2
      refine cr_goto h (tgt := 8) (by decide) dX7_advance_43 ?_
      exact cr_weak [true, false] hyp
theorem bk_yX7_advance_46 {Γ : cr_G} {K : cr_K} {τ : Nat → Nat} {I : cr_I}  (hτ : cr_tau τ)  (h : cr_Ok yX7_advance cX7_advance 2 none (cr_rm0 2 40) K 247 247 Γ) (hyp : ∀ J3 : cr_I, J3 = cr_up I 1 4 (I 1 3) → (((f_yX7_isAtEnd τ J3) = 0 → ((0 ≤ (J3 1 3).toInt ∧ (J3 1 3).toInt < 160) ∧ (∀ v1 : Int32, v1 = (f_yX7_kindOf τ (J3 2 (J3 1 3).toNatClampNeg) J3) → (∀ J4 : cr_I, J4 = cr_up J3 1 4 ((J3 1 4) + (1 : Int32)) → cr_V Γ 85 [.ref 1, .int v1] [] J4 (cr_rf τ) 247)))) ∧ (¬ (f_yX7_isAtEnd τ J3) = 0 → K none J3 (cr_rf τ)))) : cr_V Γ 46 [.ref 1, .null] [] I (cr_rf τ) 247 := by
  refine cr_aload_n h (j := 0) rfl rfl dX7_advance_46 ?_
  refine cr_aload_n h (j := 0) rfl rfl dX7_advance_47 ?_
  refine cr_getI h (k := 3) cr_clsX7 (by decide) rfl rfl wf_X7_26 (by decide) rfl dX7_advance_48 ?_
  refine cs_put h (k := 4) cr_clsX7 (by decide) rfl rfl rfl rfl wf_X7_29 (by decide) (by decide) rfl dX7_advance_51 (fun J3 eJ3 => ?_)
  have hyp := hyp J3 eJ3
  refine cr_aload_n h (j := 0) rfl rfl dX7_advance_54 ?_
  refine cr_callV h (c0 := 7) (T0 := TX7) C_yX7_isAtEnd cZ_yX7_isAtEnd wm_X7_39 wv_yX7_isAtEnd we_yX7_isAtEnd (by decide) rfl rfl (cr_rmS (by decide) (by decide)) (As := []) rfl (Nat.le_of_ble_eq_true rfl) dX7_advance_55 ⟨τ, rfl, hτ, rfl, ?_⟩
  show cr_V Γ 58 [.ref 1, .null] [.int (f_yX7_isAtEnd τ J3)] J3 (cr_rf τ) 247
  refine cr_if_eq h (tgt := 62) (by decide) dX7_advance_58 (fun c3 => ?_) (fun c3 => ?_)
  · have hyp := hyp.1 c3
    refine cr_aload_n h (j := 0) rfl rfl dX7_advance_62 ?_
    refine cr_getR h (k := 0) cr_clsX7 (by decide) rfl rfl wf_X7_9 (by decide) rfl rfl dX7_advance_63 ?_
    refine cr_aload_n h (j := 0) rfl rfl dX7_advance_66 ?_
    refine cr_getI h (k := 3) cr_clsX7 (by decide) rfl rfl wf_X7_26 (by decide) rfl dX7_advance_67 ?_
    refine cs_ild h (by decide) rfl hyp.1 (q := (J3 1 3).toNatClampNeg) rfl dX7_advance_70 ?_
    have hyp := hyp.2
    refine cr_callS h C_yX7_kindOf cZ_yX7_kindOf wm_X7_111 ws_yX7_kindOf (cr_rmS (by decide) (by decide)) (As := [.int (J3 2 (J3 1 3).toNatClampNeg)]) rfl (Nat.le_of_ble_eq_true rfl) dX7_advance_71 ⟨τ, (J3 2 (J3 1 3).toNatClampNeg), rfl, hτ, rfl, ?_⟩
    show cr_V Γ 74 [.ref 1, .null] [.int (f_yX7_kindOf τ (J3 2 (J3 1 3).toNatClampNeg) J3)] J3 (cr_rf τ) 247
    refine cs_i_n h 1 rfl (by decide) rfl dX7_advance_74 (fun v1 ev1 => ?_)
    have hyp := hyp v1 ev1
    show cr_V Γ 75 [.ref 1, .int v1] [] J3 (cr_rf τ) 247
    refine cr_aload_n h (j := 0) rfl rfl dX7_advance_75 ?_
    refine cr_dup h rfl dX7_advance_76 ?_
    refine cr_getI h (k := 4) cr_clsX7 (by decide) rfl rfl wf_X7_29 (by decide) rfl dX7_advance_77 ?_
    refine cr_iconst h (v := (1 : Int32)) (by decide) dX7_advance_80 ?_
    refine cr_iadd h dX7_advance_81 ?_
    refine cs_put h (k := 4) cr_clsX7 (by decide) rfl rfl rfl rfl wf_X7_29 (by decide) (by decide) rfl dX7_advance_82 (fun J4 eJ4 => ?_)
    have hyp := hyp J4 eJ4
    exact cr_weak [true, true] hyp
  · have hyp := hyp.2 c3
    refine cr_vret h rfl rfl dX7_advance_61 ?_
    exact hyp
theorem bk_yX7_advance_85 {Γ : cr_G} {K : cr_K} {τ : Nat → Nat} {I : cr_I} {x1 : Int32} (hτ : cr_tau τ)  (h : cr_Ok yX7_advance cX7_advance 2 none (cr_rm0 2 40) K 247 247 Γ) (hyp : (x1 = (2 : Int32) → K none I (cr_rf τ)) ∧ (¬ x1 = (2 : Int32) → (((I 1 1) ≤ (I 1 4) → K none I (cr_rf τ)) ∧ (¬ (I 1 1) ≤ (I 1 4) → ((0 ≤ (I 1 4).toInt ∧ (I 1 4).toInt < 160) ∧ (¬ (f_yX7_kindOf τ (I 2 (I 1 4).toNatClampNeg) I) = x1 → K none I (cr_rf τ)) ∧ ((f_yX7_kindOf τ (I 2 (I 1 4).toNatClampNeg) I) = x1 → (∀ J5 : cr_I, J5 = cr_up I 1 4 ((I 1 4) + (1 : Int32)) → cr_V Γ 85 [.ref 1, .int x1] [] J5 (cr_rf τ) 247))))))) : cr_V Γ 85 [.ref 1, .int x1] [] I (cr_rf τ) 247 := by
  refine cr_iload_n h (j := 1) rfl rfl dX7_advance_85 ?_
  refine cr_iconst h (v := (2 : Int32)) (by decide) dX7_advance_86 ?_
  refine cr_icmp_eq h (tgt := 130) (by decide) dX7_advance_87 (fun c4 => ?_) (fun c4 => ?_)
  · have hyp := hyp.1 c4
    refine cr_vret h rfl rfl dX7_advance_130 ?_
    exact hyp
  · have hyp := hyp.2 c4
    refine cr_aload_n h (j := 0) rfl rfl dX7_advance_90 ?_
    refine cr_getI h (k := 4) cr_clsX7 (by decide) rfl rfl wf_X7_29 (by decide) rfl dX7_advance_91 ?_
    refine cr_aload_n h (j := 0) rfl rfl dX7_advance_94 ?_
    refine cr_getI h (k := 1) cr_clsX7 (by decide) rfl rfl wf_X7_15 (by decide) rfl dX7_advance_95 ?_
    refine cr_icmp_ge h (tgt := 130) (by decide) dX7_advance_98 (fun c5 => ?_) (fun c5 => ?_)
    · have hyp := hyp.1 c5
      refine cr_vret h rfl rfl dX7_advance_130 ?_
      exact hyp
    · have hyp := hyp.2 c5
      refine cr_aload_n h (j := 0) rfl rfl dX7_advance_101 ?_
      refine cr_getR h (k := 0) cr_clsX7 (by decide) rfl rfl wf_X7_9 (by decide) rfl rfl dX7_advance_102 ?_
      refine cr_aload_n h (j := 0) rfl rfl dX7_advance_105 ?_
      refine cr_getI h (k := 4) cr_clsX7 (by decide) rfl rfl wf_X7_29 (by decide) rfl dX7_advance_106 ?_
      refine cs_ild h (by decide) rfl hyp.1 (q := (I 1 4).toNatClampNeg) rfl dX7_advance_109 ?_
      have hyp := hyp.2
      refine cr_callS h C_yX7_kindOf cZ_yX7_kindOf wm_X7_111 ws_yX7_kindOf (cr_rmS (by decide) (by decide)) (As := [.int (I 2 (I 1 4).toNatClampNeg)]) rfl (Nat.le_of_ble_eq_true rfl) dX7_advance_110 ⟨τ, (I 2 (I 1 4).toNatClampNeg), rfl, hτ, rfl, ?_⟩
      show cr_V Γ 113 [.ref 1, .int x1] [.int (f_yX7_kindOf τ (I 2 (I 1 4).toNatClampNeg) I)] I (cr_rf τ) 247
      refine cr_iload_n h (j := 1) rfl rfl dX7_advance_113 ?_
      refine cr_icmp_ne h (tgt := 130) (by decide) dX7_advance_114 (fun c6 => ?_) (fun c6 => ?_)
      · have hyp := hyp.1 c6
        refine cr_vret h rfl rfl dX7_advance_130 ?_
        exact hyp
      · have hyp := hyp.2 c6
        refine cr_aload_n h (j := 0) rfl rfl dX7_advance_117 ?_
        refine cr_dup h rfl dX7_advance_118 ?_
        refine cr_getI h (k := 4) cr_clsX7 (by decide) rfl rfl wf_X7_29 (by decide) rfl dX7_advance_119 ?_
        refine cr_iconst h (v := (1 : Int32)) (by decide) dX7_advance_122 ?_
        refine cr_iadd h dX7_advance_123 ?_
        refine cs_put h (k := 4) cr_clsX7 (by decide) rfl rfl rfl rfl wf_X7_29 (by decide) (by decide) rfl dX7_advance_124 (fun J5 eJ5 => ?_)
        have hyp := hyp J5 eJ5
        refine cr_goto h (tgt := 85) (by decide) dX7_advance_127 ?_
        exact cr_weak [true, true] hyp
abbrev T_yX7_advance : cr_T := fun vs I R K => ∃ (τ : Nat → Nat), R = cr_rf τ ∧ cr_tau τ ∧ vs = [.ref 1] ∧ p_yX7_advance τ I ∧ ∀ J, q_yX7_advance τ I J → K none J (cr_rf τ)
abbrev S_yX7_advance : Prop := cr_C yX7_advance cX7_advance 2 none (cr_rm0 2 40) 247 247 T_yX7_advance
theorem G_yX7_advance (H : ∀ (Γ : cr_G) (K : cr_K) (τ : Nat → Nat) (I : cr_I), cr_tau τ → cr_Ok yX7_advance cX7_advance 2 none (cr_rm0 2 40) K 247 247 Γ → p_yX7_advance τ I → (∀ J, q_yX7_advance τ I J → K none J (cr_rf τ)) → cr_V Γ 0 [.ref 1, .null] [] I (cr_rf τ) 247) : cr_C yX7_advance cX7_advance 2 none (cr_rm0 2 40) 247 247 T_yX7_advance := by
  refine cr_C.of (by decide +kernel) (fun vs I R K hT => ?_) (fun Γ K h vs I R hT => ?_)
  · obtain ⟨τ, rfl, hτ, rfl, hp, hK⟩ := hT
    exact Nat.le_of_ble_eq_true rfl
  · obtain ⟨τ, rfl, hτ, rfl, hp, hK⟩ := hT
    exact H Γ K τ I hτ h hp hK
theorem cr_nlt {a b : Nat} (ha : a < 100000) (hb : b < 100000) : nI a < nI b ↔ a < b := by rw [cr_lt, cr_nt ha, cr_nt hb]; omega
theorem cr_nlq {a b : Nat} (ha : a < 100000) (hb : b < 100000) : nI a ≤ nI b ↔ a ≤ b := by rw [cr_le, cr_nt ha, cr_nt hb]; omega
theorem cr_neq {a b : Nat} (ha : a < 100000) (hb : b < 100000) : nI a = nI b ↔ a = b := by rw [cr_eq, cr_nt ha, cr_nt hb]; omega
theorem cr_atE {τ : Nat → Nat} {I : cr_I} {t : cr_tk} {L : Nat} (eL : I 1 1 = nI L) (ht : t.1 < 100000) (hL : L < 100000) : f_yX7_isAtEnd τ (cr_tx I t) = if t.1 < L then 0 else 1 := by
  unfold f_yX7_isAtEnd
  rw [cr_tx_3, cr_tx_1, eL]
  by_cases q : t.1 < L
  · rw [if_pos q, if_pos ((cr_nlt ht hL).mpr q)]
  · rw [if_neg q, if_neg (fun z => q ((cr_nlt ht hL).mp z))]
theorem C_yX7_advance : S_yX7_advance := G_yX7_advance (by
  intro Γ K τ I hτ h hp hK
  obtain ⟨hL, h40, h41⟩ := hp
  obtain ⟨eL, hLN⟩ := cr_ofI (B := 160) hL.1 hL.2
  obtain ⟨eE, hE⟩ := cr_ofI (B := 160) h40 (by have := hL.2; omega)
  have heL : (I 1 4).toNatClampNeg ≤ (I 1 1).toNatClampNeg := by show (I 1 4).toInt.toNat ≤ (I 1 1).toInt.toNat; omega
  have hK' : K none (cr_tx I (cr_nx (I 2) (I 1 1).toNatClampNeg (cr_tt I))) (cr_rf τ) := hK _ rfl
  have hnx : cr_nx (I 2) (I 1 1).toNatClampNeg (cr_tt I) = (cr_sk (I 2) (I 1 1).toNatClampNeg (I 1 4).toNatClampNeg, cr_te (I 2) (I 1 1).toNatClampNeg (cr_sk (I 2) (I 1 1).toNatClampNeg (I 1 4).toNatClampNeg)) := rfl
  rw [hnx] at hK'
  have hs3 := cr_sk_le (B := I 2) heL
  generalize (I 1 1).toNatClampNeg = L at *
  generalize hSe : cr_sk (I 2) L (I 1 4).toNatClampNeg = S at *
  have key2 : ∀ m p, L - p = m → S < p → p ≤ L → S < L → (cr_kdS (I 2 S) = 2 → p = S + 1) → (cr_kdS (I 2 S) ≠ 2 → cr_run (I 2) L (cr_kdS (I 2 S)) p = cr_te (I 2) L S) → cr_V Γ 85 [.ref 1, .int (cr_kdS (I 2 S))] [] (cr_tx I (S, p)) (cr_rf τ) 247 := by
    intro m
    induction m with
    | zero =>
      intro p hm h1 h2 h3 h4 h5
      refine bk_yX7_advance_85 hτ h ⟨fun c => ?_, fun c => ⟨fun _ => ?_, fun d => absurd ?_ d⟩⟩
      · have := cr_te_sign h3 c
        rw [this, ← h4 c] at hK'
        exact hK'
      · have h6 := h5 c
        rw [cr_run_n (by omega)] at h6
        rw [← h6] at hK'
        exact hK'
      · rw [cr_tx_1, cr_tx_4, eL, cr_nlq (by omega) (by simp only; omega)]
        simp only
        omega
    | succ m ih =>
      intro p hm h1 h2 h3 h4 h5
      refine bk_yX7_advance_85 hτ h ⟨fun c => ?_, fun c => ⟨fun d => ?_, fun d => ⟨?_, ?_, ?_⟩⟩⟩
      · have := cr_te_sign h3 c
        rw [this, ← h4 c] at hK'
        exact hK'
      · rw [cr_tx_1, cr_tx_4, eL, cr_nlq (by omega) (by simp only; omega)] at d
        simp only at d
        omega
      · rw [cr_tx_4]; exact cr_ix (by simp only; omega) (by omega)
      · rw [cr_tx_4, cr_nc (by simp only; omega), cr_tx_b (by decide), cr_kdS_eq]
        intro d
        have h6 := h5 c
        rw [cr_run_n (fun q => d q.2)] at h6
        rw [← h6] at hK'
        exact hK'
      · rw [cr_tx_4, cr_nc (by simp only; omega), cr_tx_b (by decide), cr_kdS_eq]
        rintro d J rfl
        rw [nI_1, cr_tx_u4]
        refine ih (p + 1) (by omega) (by omega) (by omega) h3 (fun q => absurd q c) (fun q => ?_)
        rw [← cr_run_y (by omega) d]
        exact h5 q
  have key1 : ∀ m p, L - p = m → p ≤ L → cr_sk (I 2) L p = S → cr_V Γ 8 [.ref 1, .null] [] (cr_tx I (p, (I 1 4).toNatClampNeg)) (cr_rf τ) 247 := by
    have fin : ∀ p, p ≤ L → p = S → cr_V Γ 46 [.ref 1, .null] [] (cr_tx I (p, (I 1 4).toNatClampNeg)) (cr_rf τ) 247 := by
      rintro p h1 rfl
      refine bk_yX7_advance_46 hτ h ?_
      rw [cr_tx_3]
      rintro J rfl
      rw [cr_tx_u4, cr_atE eL (by simp only; omega) (by omega)]
      simp only
      by_cases q : p < L
      · rw [if_pos q]
        refine ⟨fun _ => ⟨?_, ?_⟩, fun z => absurd rfl z⟩
        · rw [cr_tx_3]; exact cr_ix (by simp only; omega) (by omega)
        · rw [cr_tx_3, cr_nc (by simp only; omega), cr_tx_b (by decide), cr_kdS_eq]
          rintro v rfl J rfl
          rw [cr_tx_4, nI_1, cr_tx_u4]
          refine key2 (L - (p + 1)) (p + 1) rfl (by omega) (by omega) q (fun _ => rfl) (fun c => ?_)
          unfold cr_te
          rw [if_pos q, if_neg c]
      · rw [if_neg q]
        refine ⟨fun z => absurd z (by decide), fun _ => ?_⟩
        have : cr_te (I 2) L p = p := by unfold cr_te; rw [if_neg q]
        rw [this] at hK'
        exact hK'
    intro m
    induction m with
    | zero =>
      intro p hm h1 h2
      have hpL : p = L := by omega
      refine bk_yX7_advance_8 hτ h ⟨fun _ => ?_, fun c => absurd ?_ c⟩
      · exact fin p h1 (by rw [← h2, cr_sk_n (by omega)])
      · rw [cr_tx_1, cr_tx_3, eL, cr_nlq (by omega) (by simp only; omega)]
        simp only
        omega
    | succ m ih =>
      intro p hm h1 h2
      refine bk_yX7_advance_8 hτ h ⟨fun c => ?_, fun _ => ⟨?_, fun c => ?_, fun c => ?_⟩⟩
      · rw [cr_tx_1, cr_tx_3, eL, cr_nlq (by omega) (by simp only; omega)] at c
        simp only at c
        omega
      · rw [cr_tx_3]; exact cr_ix (by simp only; omega) (by omega)
      · rw [cr_tx_3, cr_nc (by simp only; omega), cr_tx_b (by decide)] at c
        exact fin p h1 (by rw [← h2, cr_sk_n (fun q => c q.2)])
      · rw [cr_tx_3, cr_nc (by simp only; omega), cr_tx_b (by decide)] at c
        rw [cr_tx_3]
        rintro J rfl
        rw [nI_1, cr_tx_u3]
        exact ih (p + 1) (by omega) (by omega) (by rw [← cr_sk_y (by omega) c]; exact h2)
  refine bk_yX7_advance_0 hτ h ?_
  rintro J rfl
  have e : cr_up I 1 3 (I 1 4) = cr_tx I ((I 1 4).toNatClampNeg, (I 1 4).toNatClampNeg) := by
    show _ = cr_up (cr_up I 1 3 (nI (I 1 4).toNatClampNeg)) 1 4 (nI (I 1 4).toNatClampNeg)
    rw [← eE]
    have : I 1 4 = cr_up I 1 3 (I 1 4) 1 4 := by rw [cr_up_k (by decide)]
    rw [this, ← this]
    exact (cr_up_id (f := cr_up I 1 3 (I 1 4)) (b := 1) (k := 4)).symm.trans (by rw [cr_up_k (by decide)])
  rw [e]
  exact key1 _ _ rfl heL hSe)
