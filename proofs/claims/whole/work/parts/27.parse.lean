/-! lines of a text -/
def cr_wsS (B : Nat → Int32) (L : Nat) (t : cr_tk) : Bool × cr_tk × Int32 :=
  if cr_isW B t 0 = true then (true, cr_nx B L t, 0)
  else if cr_isW B t 1 = true then (if cr_isN B L (cr_nx B L t) = true then (true, cr_nx B L (cr_nx B L t), -(cr_num B (cr_nx B L t))) else (false, cr_nx B L t, 0))
  else if cr_isW B t 2 = true then (if cr_isN B L (cr_nx B L t) = true then (true, cr_nx B L (cr_nx B L t), cr_num B (cr_nx B L t)) else (false, cr_nx B L t, 0))
  else (false, t, 0)
def cr_tsS (B : Nat → Int32) (L : Nat) (t : cr_tk) : Bool × cr_tk × Int32 × Int32 × Int32 :=
  if cr_rdS B t = -1 then (false, t, 0, 0, 0)
  else if cr_isW B (cr_nx B L t) 10 = true then (if cr_isN B L (cr_nx B L (cr_nx B L t)) = true then (true, cr_nx B L (cr_nx B L (cr_nx B L t)), cr_rdS B t, 1, cr_num B (cr_nx B L (cr_nx B L t))) else (false, cr_nx B L (cr_nx B L t), 0, 0, 0))
  else if cr_isW B (cr_nx B L t) 11 = true then (if cr_isN B L (cr_nx B L (cr_nx B L t)) = true then (true, cr_nx B L (cr_nx B L (cr_nx B L t)), cr_rdS B t, 0, cr_num B (cr_nx B L (cr_nx B L t))) else (false, cr_nx B L (cr_nx B L t), 0, 0, 0))
  else (false, cr_nx B L t, 0, 0, 0)
def cr_tst (B : Nat → Int32) (L : Nat) (t0 : cr_tk) : Nat → cr_tk
  | 0 => cr_nx B L t0
  | k + 1 => cr_nx B L (cr_tsS B L (cr_tst B L t0 k)).2.1
def cr_tlS (B : Nat → Int32) (L : Nat) (t0 : cr_tk) : Nat → Nat → Bool × cr_tk × Nat
  | 0, k => (true, (cr_tsS B L (cr_tst B L t0 (k - 1))).2.1, k)
  | m + 1, k => if (cr_tsS B L (cr_tst B L t0 k)).1 = true then (if cr_isW B (cr_tsS B L (cr_tst B L t0 k)).2.1 12 = true then cr_tlS B L t0 m (k + 1) else (true, (cr_tsS B L (cr_tst B L t0 k)).2.1, k + 1)) else (false, (cr_tsS B L (cr_tst B L t0 k)).2.1, k)
/-- a line: whether it is one, the token that stands behind it (or that is at fault), its wish, its tests -/
def cr_lnS (B : Nat → Int32) (L : Nat) (t : cr_tk) : Bool × cr_tk × Int32 × Nat :=
  if (cr_wsS B L t).1 = true then (if cr_isW B (cr_wsS B L t).2.1 3 = true then ((cr_tlS B L (cr_wsS B L t).2.1 4 0).1, (cr_tlS B L (cr_wsS B L t).2.1 4 0).2.1, (cr_wsS B L t).2.2, (cr_tlS B L (cr_wsS B L t).2.1 4 0).2.2) else (true, (cr_wsS B L t).2.1, (cr_wsS B L t).2.2, 0)) else (false, (cr_wsS B L t).2.1, 0, 0)
def cr_lnt (B : Nat → Int32) (L : Nat) : Nat → cr_tk
  | 0 => cr_nx B L (0, 0)
  | j + 1 => cr_nx B L (cr_lnS B L (cr_lnt B L j)).2.1
def cr_paS (B : Nat → Int32) (L : Nat) : Nat → Nat → Option Nat × Nat
  | 0, j => (some (cr_lnS B L (cr_lnt B L (j - 1))).2.1.1, j)
  | m + 1, j => if (cr_lnS B L (cr_lnt B L j)).1 = true then (if (cr_lnS B L (cr_lnt B L j)).2.1.1 < L then (if B (cr_lnS B L (cr_lnt B L j)).2.1.1 = 59 then cr_paS B L m (j + 1) else (some (cr_lnS B L (cr_lnt B L j)).2.1.1, j)) else (none, j + 1)) else (some (cr_lnS B L (cr_lnt B L j)).2.1.1, j)
theorem cr_wsS_ok {B : Nat → Int32} {L : Nat} {t : cr_tk} (h : cr_tok L t) : cr_tok L (cr_wsS B L t).2.1 := by
  have h1 : cr_tok L (cr_nx B L t) := cr_nx_ok h.2
  have h2 : cr_tok L (cr_nx B L (cr_nx B L t)) := cr_nx_ok h1.2
  unfold cr_wsS
  repeat' split
  all_goals assumption
theorem cr_tsS_ok {B : Nat → Int32} {L : Nat} {t : cr_tk} (h : cr_tok L t) : cr_tok L (cr_tsS B L t).2.1 := by
  have h1 : cr_tok L (cr_nx B L t) := cr_nx_ok h.2
  have h2 : cr_tok L (cr_nx B L (cr_nx B L t)) := cr_nx_ok h1.2
  have h3 : cr_tok L (cr_nx B L (cr_nx B L (cr_nx B L t))) := cr_nx_ok h2.2
  unfold cr_tsS
  repeat' split
  all_goals assumption
theorem cr_tst_ok {B : Nat → Int32} {L : Nat} {t : cr_tk} (h : cr_tok L t) : ∀ k, cr_tok L (cr_tst B L t k)
  | 0 => cr_nx_ok h.2
  | k + 1 => cr_nx_ok (cr_tsS_ok (cr_tst_ok h k)).2
theorem cr_tlS_ok {B : Nat → Int32} {L : Nat} {t : cr_tk} (h : cr_tok L t) : ∀ m k, cr_tok L (cr_tlS B L t m k).2.1
  | 0, k => cr_tsS_ok (cr_tst_ok h _)
  | m + 1, k => by
    have h1 := cr_tsS_ok (B := B) (cr_tst_ok (B := B) h k)
    rw [cr_tlS]
    split
    · split
      · exact cr_tlS_ok h m (k + 1)
      · exact h1
    · exact h1
theorem cr_lnS_ok {B : Nat → Int32} {L : Nat} {t : cr_tk} (h : cr_tok L t) : cr_tok L (cr_lnS B L t).2.1 := by
  have h1 := cr_wsS_ok (B := B) h
  unfold cr_lnS
  split
  · split
    · exact cr_tlS_ok h1 4 0
    · exact h1
  · exact h1
theorem cr_lnt_ok {B : Nat → Int32} {L : Nat} : ∀ j, cr_tok L (cr_lnt B L j)
  | 0 => cr_nx_ok (Nat.zero_le _)
  | j + 1 => cr_nx_ok (cr_lnS_ok (cr_lnt_ok j)).2
theorem cr_tlS_n {B : Nat → Int32} {L : Nat} {t : cr_tk} : ∀ m k, k ≤ (cr_tlS B L t m k).2.2 ∧ (cr_tlS B L t m k).2.2 ≤ k + m
  | 0, k => ⟨Nat.le_refl _, Nat.le_refl _⟩
  | m + 1, k => by
    rw [cr_tlS]
    split
    · split
      · have := cr_tlS_n (B := B) (L := L) (t := t) m (k + 1)
        omega
      · simp only; omega
    · simp only; omega
theorem cr_lnS_n {B : Nat → Int32} {L : Nat} {t : cr_tk} : (cr_lnS B L t).2.2.2 ≤ 4 := by
  have := cr_tlS_n (B := B) (L := L) (t := (cr_wsS B L t).2.1) 4 0
  unfold cr_lnS
  split
  · split
    · simp only; omega
    · simp only; omega
  · simp only; omega
/-! the class's own -/
theorem cr_at.of {I : cr_I} (h : cr_tkok I) : cr_at I (cr_tt I) := ⟨h.un.1, h.un.2.2⟩
theorem cr_tkok.id {I : cr_I} (h : cr_tkok I) : cr_tx I (cr_tt I) = I := cr_tx_id h.2.1.1 (by have := h.2.1; omega)
theorem cr_up_row_ne {I : cr_I} {b k c : Nat} {v : Int32} (h : c ≠ b) : cr_up I b k v c = I c := funext fun _ => cr_up_b h
theorem cr_tL_up {I : cr_I} {b k : Nat} {v : Int32} (h : b ≠ 1) : cr_tL (cr_up I b k v) = cr_tL I := by unfold cr_tL; rw [cr_up_b (Ne.symm h)]
theorem cr_T4 {τ : Nat → Nat} (hτ : cr_tau τ) : 3 ≤ τ 4 ∧ τ 4 + 24 ≤ 129 := by
  have := hτ.1 4 (by decide)
  unfold cr_isT at this
  omega
theorem cr_at.nN {I : cr_I} {t : cr_tk} {τ : Nat → Nat} (h : cr_at I t) : p_yX7_number τ (cr_tx I t) ∧ f_yX7_number τ (cr_tx I t) = cr_num (I 2) t := ⟨h.ok, by unfold f_yX7_number; rw [h.tt, cr_tx_r (by decide)]⟩
/-- advance after a byte of the table was written -/
theorem cr_at.upadv {τ : Nat → Nat} {I : cr_I} {t : cr_tk} {b k : Nat} {v : Int32} (h : cr_at I t) (hb : 2 < b) : p_yX7_advance τ (cr_up (cr_tx I t) b k v) ∧ ∀ J, q_yX7_advance τ (cr_up (cr_tx I t) b k v) J → J = cr_tx (cr_up I b k v) (cr_nx (I 2) (cr_tL I) t) := by
  rw [cr_tx_up (by omega)]
  have := (h.up (b := b) (k := k) (v := v) (by omega)).adv (τ := τ)
  rw [cr_up_row_ne (by omega), cr_tL_up (by omega)] at this
  exact this
def p_yX7_parseWish (τ : Nat → Nat) (x1 : Int32) (I : cr_I) : Prop := cr_tkok I ∧ 0 ≤ x1.toInt ∧ x1.toInt < 6
def q_yX7_parseWish (τ : Nat → Nat) (x1 : Int32) (I : cr_I) (r : Int32) (J : cr_I) : Prop := r = (if (cr_wsS (I 2) (cr_tL I) (cr_tt I)).1 = true then 1 else 0) ∧ J = cr_tx (if (cr_wsS (I 2) (cr_tL I) (cr_tt I)).1 = true then cr_up I (τ 4 + 1) x1.toNatClampNeg (cr_wsS (I 2) (cr_tL I) (cr_tt I)).2.2 else I) (cr_wsS (I 2) (cr_tL I) (cr_tt I)).2.1
theorem bk_yX7_parseWish_0 {Γ : cr_G} {K : cr_K} {τ : Nat → Nat} {I : cr_I} {x1 : Int32} (hτ : cr_tau τ)  (h : cr_Ok yX7_parseWish cX7_parseWish 3 (some .boolean) (cr_rm0 5 107) K 247 247 Γ) (hyp : p_yX7_isWord τ 0 I ∧ ((f_yX7_isWord τ 0 I) = 0 → (p_yX7_isWord τ 1 I ∧ (∀ v1 : Int32, v1 = (f_yX7_isWord τ 1 I) → ((¬ v1 = 0 → (p_yX7_advance τ I ∧ (∀ (J1 : cr_I), q_yX7_advance τ I J1 → (p_yX7_isNumber τ J1 ∧ (¬ (f_yX7_isNumber τ J1) = 0 → ((v1 = 0 → (p_yX7_number τ J1 ∧ True)) ∧ (¬ v1 = 0 → (p_yX7_number τ J1 ∧ True)) ∧ ((0 ≤ x1.toInt ∧ x1.toInt < 6) ∧ (∀ J2 : cr_I, J2 = cr_up J1 ((τ 4) + 1) x1.toNatClampNeg (if v1 = 0 then (f_yX7_number τ J1) else (-(f_yX7_number τ J1))) → (p_yX7_advance τ J2 ∧ (∀ (J3 : cr_I), q_yX7_advance τ J2 J3 → K (some (.int (1 : Int32))) J3 (cr_rf τ))))))) ∧ ((f_yX7_isNumber τ J1) = 0 → K (some (.int (0 : Int32))) J1 (cr_rf τ)))))) ∧ (v1 = 0 → (p_yX7_isWord τ 2 I ∧ (¬ (f_yX7_isWord τ 2 I) = 0 → (p_yX7_advance τ I ∧ (∀ (J5 : cr_I), q_yX7_advance τ I J5 → (p_yX7_isNumber τ J5 ∧ (¬ (f_yX7_isNumber τ J5) = 0 → ((v1 = 0 → (p_yX7_number τ J5 ∧ True)) ∧ (¬ v1 = 0 → (p_yX7_number τ J5 ∧ True)) ∧ ((0 ≤ x1.toInt ∧ x1.toInt < 6) ∧ (∀ J6 : cr_I, J6 = cr_up J5 ((τ 4) + 1) x1.toNatClampNeg (if v1 = 0 then (f_yX7_number τ J5) else (-(f_yX7_number τ J5))) → (p_yX7_advance τ J6 ∧ (∀ (J7 : cr_I), q_yX7_advance τ J6 J7 → K (some (.int (1 : Int32))) J7 (cr_rf τ))))))) ∧ ((f_yX7_isNumber τ J5) = 0 → K (some (.int (0 : Int32))) J5 (cr_rf τ)))))) ∧ ((f_yX7_isWord τ 2 I) = 0 → K (some (.int (0 : Int32))) I (cr_rf τ)))))))) ∧ (¬ (f_yX7_isWord τ 0 I) = 0 → ((0 ≤ x1.toInt ∧ x1.toInt < 6) ∧ (∀ J9 : cr_I, J9 = cr_up I ((τ 4) + 1) x1.toNatClampNeg (0 : Int32) → (p_yX7_advance τ J9 ∧ (∀ (J10 : cr_I), q_yX7_advance τ J9 J10 → K (some (.int (1 : Int32))) J10 (cr_rf τ))))))) : cr_V Γ 0 [.ref 1, .int x1, .null] [] I (cr_rf τ) 247 := by
  refine cr_aload_n h (j := 0) rfl rfl dX7_parseWish_0 ?_
  refine cr_ldcS67 h rfl dX7_parseWish_1 ?_
  refine cr_callV h (c0 := 7) (T0 := TX7) C_yX7_isWord cZ_yX7_isWord wm_X7_57 wv_yX7_isWord we_yX7_isWord (by decide) rfl rfl (cr_rmS (by decide) (by decide)) (As := [.ref 1003]) rfl (Nat.le_of_ble_eq_true rfl) dX7_parseWish_3 ⟨τ, 0, rfl, hτ, rfl, (by decide), hyp.1, ?_⟩
  have hyp := hyp.2
  show cr_V Γ 6 [.ref 1, .int x1, .null] [.int (f_yX7_isWord τ 0 I)] I (cr_rf τ) 247
  refine cr_if_eq h (tgt := 25) (by decide) dX7_parseWish_6 (fun c1 => ?_) (fun c1 => ?_)
  · have hyp := hyp.1 c1
    refine cr_aload_n h (j := 0) rfl rfl dX7_parseWish_25 ?_
    refine cr_ldcS72 h rfl dX7_parseWish_26 ?_
    refine cr_callV h (c0 := 7) (T0 := TX7) C_yX7_isWord cZ_yX7_isWord wm_X7_57 wv_yX7_isWord we_yX7_isWord (by decide) rfl rfl (cr_rmS (by decide) (by decide)) (As := [.ref 1004]) rfl (Nat.le_of_ble_eq_true rfl) dX7_parseWish_28 ⟨τ, 1, rfl, hτ, rfl, (by decide), hyp.1, ?_⟩
    have hyp := hyp.2
    show cr_V Γ 31 [.ref 1, .int x1, .null] [.int (f_yX7_isWord τ 1 I)] I (cr_rf τ) 247
    refine cs_i_n h 2 rfl (by decide) rfl dX7_parseWish_31 (fun v1 ev1 => ?_)
    have hyp := hyp v1 ev1
    show cr_V Γ 32 [.ref 1, .int x1, .int v1] [] I (cr_rf τ) 247
    refine cr_iload_n h (j := 2) rfl rfl dX7_parseWish_32 ?_
    refine cr_if_ne h (tgt := 47) (by decide) dX7_parseWish_33 (fun c2 => ?_) (fun c2 => ?_)
    · have hyp := hyp.1 c2
      refine cr_aload_n h (j := 0) rfl rfl dX7_parseWish_47 ?_
      refine cr_callV h (c0 := 7) (T0 := TX7) C_yX7_advance cZ_yX7_advance wm_X7_32 wv_yX7_advance we_yX7_advance (by decide) rfl rfl (cr_rmS (by decide) (by decide)) (As := []) rfl (Nat.le_of_ble_eq_true rfl) dX7_parseWish_48 ⟨τ, rfl, hτ, rfl, hyp.1, fun J1 q1 => ?_⟩
      have hyp := hyp.2 J1 q1
      show cr_V Γ 51 [.ref 1, .int x1, .int v1] [] J1 (cr_rf τ) 247
      refine cr_aload_n h (j := 0) rfl rfl dX7_parseWish_51 ?_
      refine cr_callV h (c0 := 7) (T0 := TX7) C_yX7_isNumber cZ_yX7_isNumber wm_X7_76 wv_yX7_isNumber we_yX7_isNumber (by decide) rfl rfl (cr_rmS (by decide) (by decide)) (As := []) rfl (Nat.le_of_ble_eq_true rfl) dX7_parseWish_52 ⟨τ, rfl, hτ, rfl, hyp.1, ?_⟩
      have hyp := hyp.2
      show cr_V Γ 55 [.ref 1, .int x1, .int v1] [.int (f_yX7_isNumber τ J1)] J1 (cr_rf τ) 247
      refine cr_if_ne h (tgt := 60) (by decide) dX7_parseWish_55 (fun c3 => ?_) (fun c3 => ?_)
      · have hyp := hyp.1 c3
        refine cr_aload_n h (j := 0) rfl rfl dX7_parseWish_60 ?_
        refine cr_getR h (k := 2) cr_clsX7 (by decide) rfl rfl wf_X7_22 (by decide) rfl rfl dX7_parseWish_61 ?_
        refine cr_getR h (k := 1) cr_clsX6 (by decide) rfl rfl wf_X7_69 (by have := (kt_t (hτ.1 4 (by decide))).1; omega) (kt_t (hτ.1 4 (by decide))).2.1 ((kt_t (hτ.1 4 (by decide))).2.2.2.2.2.2.2 τ).1 dX7_parseWish_64 ?_
        refine cr_iload_n h (j := 1) rfl rfl dX7_parseWish_67 ?_
        refine cr_iload_n h (j := 2) rfl rfl dX7_parseWish_68 ?_
        have hsJ4 := hyp.1
        have htJ4 := hyp.2.1
        have hyp := hyp.2.2
        have J4 : cr_V Γ 84 [.ref 1, .int x1, .int v1] [.int (if v1 = 0 then (f_yX7_number τ J1) else (-(f_yX7_number τ J1))), .int x1, .ref ((τ 4) + 1)] J1 (cr_rf τ) 247 := by
          refine cs_ist h (by have := (kt_t (hτ.1 4 (by decide))).1; omega) (by decide) (kt_t (hτ.1 4 (by decide))).2.2.1 hyp.1 (q := x1.toNatClampNeg) rfl dX7_parseWish_84 (fun J2 eJ2 => ?_)
          have hyp := hyp.2 J2 eJ2
          refine cr_aload_n h (j := 0) rfl rfl dX7_parseWish_85 ?_
          refine cr_callV h (c0 := 7) (T0 := TX7) C_yX7_advance cZ_yX7_advance wm_X7_32 wv_yX7_advance we_yX7_advance (by decide) rfl rfl (cr_rmS (by decide) (by decide)) (As := []) rfl (Nat.le_of_ble_eq_true rfl) dX7_parseWish_86 ⟨τ, rfl, hτ, rfl, hyp.1, fun J3 q2 => ?_⟩
          have hyp := hyp.2 J3 q2
          show cr_V Γ 89 [.ref 1, .int x1, .int v1] [] J3 (cr_rf τ) 247
          refine cr_iconst h (v := (1 : Int32)) (by decide) dX7_parseWish_89 ?_
          refine cr_iret h rfl (by decide) rfl dX7_parseWish_90 ?_
          exact hyp
        refine cr_if_eq h (tgt := 80) (by decide) dX7_parseWish_69 (fun c4 => ?_) (fun c4 => ?_)
        · have hyp := hsJ4 c4
          refine cr_aload_n h (j := 0) rfl rfl dX7_parseWish_80 ?_
          refine cr_callV h (c0 := 7) (T0 := TX7) C_yX7_number cZ_yX7_number wm_X7_79 wv_yX7_number we_yX7_number (by decide) rfl rfl (cr_rmS (by decide) (by decide)) (As := []) rfl (Nat.le_of_ble_eq_true rfl) dX7_parseWish_81 ⟨τ, rfl, hτ, rfl, hyp.1, ?_⟩
          have hyp := hyp.2
          show cr_V Γ 84 [.ref 1, .int x1, .int v1] [.int (f_yX7_number τ J1), .int x1, .ref ((τ 4) + 1)] J1 (cr_rf τ) 247
          exact cr_ite (by rw [if_pos c4]) J4
        · have hyp := htJ4 c4
          refine cr_aload_n h (j := 0) rfl rfl dX7_parseWish_72 ?_
          refine cr_callV h (c0 := 7) (T0 := TX7) C_yX7_number cZ_yX7_number wm_X7_79 wv_yX7_number we_yX7_number (by decide) rfl rfl (cr_rmS (by decide) (by decide)) (As := []) rfl (Nat.le_of_ble_eq_true rfl) dX7_parseWish_73 ⟨τ, rfl, hτ, rfl, hyp.1, ?_⟩
          have hyp := hyp.2
          show cr_V Γ 76 [.ref 1, .int x1, .int v1] [.int (f_yX7_number τ J1), .int x1, .ref ((τ 4) + 1)] J1 (cr_rf τ) 247
          refine cr_ineg h dX7_parseWish_76 ?_
          refine cr_goto h (tgt := 84) (by decide) dX7_parseWish_77 ?_
          exact cr_ite (by rw [if_neg c4]) J4
      · have hyp := hyp.2 c3
        refine cr_iconst h (v := (0 : Int32)) (by decide) dX7_parseWish_58 ?_
        refine cr_iret h rfl (by decide) rfl dX7_parseWish_59 ?_
        exact hyp
    · have hyp := hyp.2 c2
      refine cr_aload_n h (j := 0) rfl rfl dX7_parseWish_36 ?_
      refine cr_ldcS74 h rfl dX7_parseWish_37 ?_
      refine cr_callV h (c0 := 7) (T0 := TX7) C_yX7_isWord cZ_yX7_isWord wm_X7_57 wv_yX7_isWord we_yX7_isWord (by decide) rfl rfl (cr_rmS (by decide) (by decide)) (As := [.ref 1005]) rfl (Nat.le_of_ble_eq_true rfl) dX7_parseWish_39 ⟨τ, 2, rfl, hτ, rfl, (by decide), hyp.1, ?_⟩
      have hyp := hyp.2
      show cr_V Γ 42 [.ref 1, .int x1, .int v1] [.int (f_yX7_isWord τ 2 I)] I (cr_rf τ) 247
      refine cr_if_ne h (tgt := 47) (by decide) dX7_parseWish_42 (fun c5 => ?_) (fun c5 => ?_)
      · have hyp := hyp.1 c5
        refine cr_aload_n h (j := 0) rfl rfl dX7_parseWish_47 ?_
        refine cr_callV h (c0 := 7) (T0 := TX7) C_yX7_advance cZ_yX7_advance wm_X7_32 wv_yX7_advance we_yX7_advance (by decide) rfl rfl (cr_rmS (by decide) (by decide)) (As := []) rfl (Nat.le_of_ble_eq_true rfl) dX7_parseWish_48 ⟨τ, rfl, hτ, rfl, hyp.1, fun J5 q3 => ?_⟩
        have hyp := hyp.2 J5 q3
        show cr_V Γ 51 [.ref 1, .int x1, .int v1] [] J5 (cr_rf τ) 247
        refine cr_aload_n h (j := 0) rfl rfl dX7_parseWish_51 ?_
        refine cr_callV h (c0 := 7) (T0 := TX7) C_yX7_isNumber cZ_yX7_isNumber wm_X7_76 wv_yX7_isNumber we_yX7_isNumber (by decide) rfl rfl (cr_rmS (by decide) (by decide)) (As := []) rfl (Nat.le_of_ble_eq_true rfl) dX7_parseWish_52 ⟨τ, rfl, hτ, rfl, hyp.1, ?_⟩
        have hyp := hyp.2
        show cr_V Γ 55 [.ref 1, .int x1, .int v1] [.int (f_yX7_isNumber τ J5)] J5 (cr_rf τ) 247
        refine cr_if_ne h (tgt := 60) (by decide) dX7_parseWish_55 (fun c6 => ?_) (fun c6 => ?_)
        · have hyp := hyp.1 c6
          refine cr_aload_n h (j := 0) rfl rfl dX7_parseWish_60 ?_
          refine cr_getR h (k := 2) cr_clsX7 (by decide) rfl rfl wf_X7_22 (by decide) rfl rfl dX7_parseWish_61 ?_
          refine cr_getR h (k := 1) cr_clsX6 (by decide) rfl rfl wf_X7_69 (by have := (kt_t (hτ.1 4 (by decide))).1; omega) (kt_t (hτ.1 4 (by decide))).2.1 ((kt_t (hτ.1 4 (by decide))).2.2.2.2.2.2.2 τ).1 dX7_parseWish_64 ?_
          refine cr_iload_n h (j := 1) rfl rfl dX7_parseWish_67 ?_
          refine cr_iload_n h (j := 2) rfl rfl dX7_parseWish_68 ?_
          have hsJ8 := hyp.1
          have htJ8 := hyp.2.1
          have hyp := hyp.2.2
          have J8 : cr_V Γ 84 [.ref 1, .int x1, .int v1] [.int (if v1 = 0 then (f_yX7_number τ J5) else (-(f_yX7_number τ J5))), .int x1, .ref ((τ 4) + 1)] J5 (cr_rf τ) 247 := by
            refine cs_ist h (by have := (kt_t (hτ.1 4 (by decide))).1; omega) (by decide) (kt_t (hτ.1 4 (by decide))).2.2.1 hyp.1 (q := x1.toNatClampNeg) rfl dX7_parseWish_84 (fun J6 eJ6 => ?_)
            have hyp := hyp.2 J6 eJ6
            refine cr_aload_n h (j := 0) rfl rfl dX7_parseWish_85 ?_
            refine cr_callV h (c0 := 7) (T0 := TX7) C_yX7_advance cZ_yX7_advance wm_X7_32 wv_yX7_advance we_yX7_advance (by decide) rfl rfl (cr_rmS (by decide) (by decide)) (As := []) rfl (Nat.le_of_ble_eq_true rfl) dX7_parseWish_86 ⟨τ, rfl, hτ, rfl, hyp.1, fun J7 q4 => ?_⟩
            have hyp := hyp.2 J7 q4
            show cr_V Γ 89 [.ref 1, .int x1, .int v1] [] J7 (cr_rf τ) 247
            refine cr_iconst h (v := (1 : Int32)) (by decide) dX7_parseWish_89 ?_
            refine cr_iret h rfl (by decide) rfl dX7_parseWish_90 ?_
            exact hyp
          refine cr_if_eq h (tgt := 80) (by decide) dX7_parseWish_69 (fun c7 => ?_) (fun c7 => ?_)
          · have hyp := hsJ8 c7
            refine cr_aload_n h (j := 0) rfl rfl dX7_parseWish_80 ?_
            refine cr_callV h (c0 := 7) (T0 := TX7) C_yX7_number cZ_yX7_number wm_X7_79 wv_yX7_number we_yX7_number (by decide) rfl rfl (cr_rmS (by decide) (by decide)) (As := []) rfl (Nat.le_of_ble_eq_true rfl) dX7_parseWish_81 ⟨τ, rfl, hτ, rfl, hyp.1, ?_⟩
            have hyp := hyp.2
            show cr_V Γ 84 [.ref 1, .int x1, .int v1] [.int (f_yX7_number τ J5), .int x1, .ref ((τ 4) + 1)] J5 (cr_rf τ) 247
            exact cr_ite (by rw [if_pos c7]) J8
          · have hyp := htJ8 c7
            refine cr_aload_n h (j := 0) rfl rfl dX7_parseWish_72 ?_
            refine cr_callV h (c0 := 7) (T0 := TX7) C_yX7_number cZ_yX7_number wm_X7_79 wv_yX7_number we_yX7_number (by decide) rfl rfl (cr_rmS (by decide) (by decide)) (As := []) rfl (Nat.le_of_ble_eq_true rfl) dX7_parseWish_73 ⟨τ, rfl, hτ, rfl, hyp.1, ?_⟩
            have hyp := hyp.2
            show cr_V Γ 76 [.ref 1, .int x1, .int v1] [.int (f_yX7_number τ J5), .int x1, .ref ((τ 4) + 1)] J5 (cr_rf τ) 247
            refine cr_ineg h dX7_parseWish_76 ?_
            refine cr_goto h (tgt := 84) (by decide) dX7_parseWish_77 ?_
            exact cr_ite (by rw [if_neg c7]) J8
        · have hyp := hyp.2 c6
          refine cr_iconst h (v := (0 : Int32)) (by decide) dX7_parseWish_58 ?_
          refine cr_iret h rfl (by decide) rfl dX7_parseWish_59 ?_
          exact hyp
      · have hyp := hyp.2 c5
        refine cr_iconst h (v := (0 : Int32)) (by decide) dX7_parseWish_45 ?_
        refine cr_iret h rfl (by decide) rfl dX7_parseWish_46 ?_
        exact hyp
  · have hyp := hyp.2 c1
    refine cr_aload_n h (j := 0) rfl rfl dX7_parseWish_9 ?_
    refine cr_getR h (k := 2) cr_clsX7 (by decide) rfl rfl wf_X7_22 (by decide) rfl rfl dX7_parseWish_10 ?_
    refine cr_getR h (k := 1) cr_clsX6 (by decide) rfl rfl wf_X7_69 (by have := (kt_t (hτ.1 4 (by decide))).1; omega) (kt_t (hτ.1 4 (by decide))).2.1 ((kt_t (hτ.1 4 (by decide))).2.2.2.2.2.2.2 τ).1 dX7_parseWish_13 ?_
    refine cr_iload_n h (j := 1) rfl rfl dX7_parseWish_16 ?_
    refine cr_iconst h (v := (0 : Int32)) (by decide) dX7_parseWish_17 ?_
    refine cs_ist h (by have := (kt_t (hτ.1 4 (by decide))).1; omega) (by decide) (kt_t (hτ.1 4 (by decide))).2.2.1 hyp.1 (q := x1.toNatClampNeg) rfl dX7_parseWish_18 (fun J9 eJ9 => ?_)
    have hyp := hyp.2 J9 eJ9
    refine cr_aload_n h (j := 0) rfl rfl dX7_parseWish_19 ?_
    refine cr_callV h (c0 := 7) (T0 := TX7) C_yX7_advance cZ_yX7_advance wm_X7_32 wv_yX7_advance we_yX7_advance (by decide) rfl rfl (cr_rmS (by decide) (by decide)) (As := []) rfl (Nat.le_of_ble_eq_true rfl) dX7_parseWish_20 ⟨τ, rfl, hτ, rfl, hyp.1, fun J10 q5 => ?_⟩
    have hyp := hyp.2 J10 q5
    show cr_V Γ 23 [.ref 1, .int x1, .null] [] J10 (cr_rf τ) 247
    refine cr_iconst h (v := (1 : Int32)) (by decide) dX7_parseWish_23 ?_
    refine cr_iret h rfl (by decide) rfl dX7_parseWish_24 ?_
    exact hyp
abbrev T_yX7_parseWish : cr_T := fun vs I R K => ∃ (τ : Nat → Nat) (x1 : Int32), R = cr_rf τ ∧ cr_tau τ ∧ vs = [.ref 1, .int x1] ∧ p_yX7_parseWish τ x1 I ∧ ∀ (r : Int32) J, q_yX7_parseWish τ x1 I r J → K (some (.int r)) J (cr_rf τ)
abbrev S_yX7_parseWish : Prop := cr_C yX7_parseWish cX7_parseWish 3 (some .boolean) (cr_rm0 5 107) 247 247 T_yX7_parseWish
theorem G_yX7_parseWish (H : ∀ (Γ : cr_G) (K : cr_K) (τ : Nat → Nat) (x1 : Int32) (I : cr_I), cr_tau τ → cr_Ok yX7_parseWish cX7_parseWish 3 (some .boolean) (cr_rm0 5 107) K 247 247 Γ → p_yX7_parseWish τ x1 I → (∀ (r : Int32) J, q_yX7_parseWish τ x1 I r J → K (some (.int r)) J (cr_rf τ)) → cr_V Γ 0 [.ref 1, .int x1, .null] [] I (cr_rf τ) 247) : cr_C yX7_parseWish cX7_parseWish 3 (some .boolean) (cr_rm0 5 107) 247 247 T_yX7_parseWish := by
  refine cr_C.of (by decide +kernel) (fun vs I R K hT => ?_) (fun Γ K h vs I R hT => ?_)
  · obtain ⟨τ, x1, rfl, hτ, rfl, hp, hK⟩ := hT
    exact Nat.le_of_ble_eq_true rfl
  · obtain ⟨τ, x1, rfl, hτ, rfl, hp, hK⟩ := hT
    exact H Γ K τ x1 I hτ h hp hK
theorem C_yX7_parseWish : S_yX7_parseWish := G_yX7_parseWish (by
  intro Γ K τ x1 I hτ h hp hK
  obtain ⟨hok, hx⟩ := hp
  have hat := cr_at.of hok
  have hI := hok.id
  have h4 := cr_T4 hτ
  have adv0 := hat.adv (τ := τ)
  rw [hI] at adv0
  have hKt : ∀ (w : Int32) (k : cr_tk), cr_wsS (I 2) (cr_tL I) (cr_tt I) = (true, k, w) → K (some (.int 1)) (cr_tx (cr_up I (τ 4 + 1) x1.toNatClampNeg w) k) (cr_rf τ) := fun w k e => hK _ _ (by
    unfold q_yX7_parseWish
    rw [e]
    exact ⟨rfl, rfl⟩)
  have hKf : ∀ (w : Int32) (k : cr_tk), cr_wsS (I 2) (cr_tL I) (cr_tt I) = (false, k, w) → K (some (.int 0)) (cr_tx I k) (cr_rf τ) := fun w k e => hK _ _ (by
    unfold q_yX7_parseWish
    rw [e]
    exact ⟨rfl, rfl⟩)
  unfold cr_wsS at hKt hKf
  have tail : ∀ (v1 : Int32) (J1 : cr_I), J1 = cr_tx I (cr_nx (I 2) (cr_tL I) (cr_tt I)) → (∀ k, k = cr_nx (I 2) (cr_tL I) (cr_nx (I 2) (cr_tL I) (cr_tt I)) → cr_isN (I 2) (cr_tL I) (cr_nx (I 2) (cr_tL I) (cr_tt I)) = true → K (some (.int 1)) (cr_tx (cr_up I (τ 4 + 1) x1.toNatClampNeg (if v1 = 0 then cr_num (I 2) (cr_nx (I 2) (cr_tL I) (cr_tt I)) else -(cr_num (I 2) (cr_nx (I 2) (cr_tL I) (cr_tt I))))) k) (cr_rf τ)) → (¬ cr_isN (I 2) (cr_tL I) (cr_nx (I 2) (cr_tL I) (cr_tt I)) = true → K (some (.int 0)) (cr_tx I (cr_nx (I 2) (cr_tL I) (cr_tt I))) (cr_rf τ)) → (p_yX7_isNumber τ J1 ∧ (¬ (f_yX7_isNumber τ J1) = 0 → ((v1 = 0 → (p_yX7_number τ J1 ∧ True)) ∧ (¬ v1 = 0 → (p_yX7_number τ J1 ∧ True)) ∧ ((0 ≤ x1.toInt ∧ x1.toInt < 6) ∧ (∀ J2 : cr_I, J2 = cr_up J1 ((τ 4) + 1) x1.toNatClampNeg (if v1 = 0 then (f_yX7_number τ J1) else (-(f_yX7_number τ J1))) → (p_yX7_advance τ J2 ∧ (∀ (J3 : cr_I), q_yX7_advance τ J2 J3 → K (some (.int (1 : Int32))) J3 (cr_rf τ))))))) ∧ ((f_yX7_isNumber τ J1) = 0 → K (some (.int (0 : Int32))) J1 (cr_rf τ))) := by
    rintro v1 J1 rfl k1 k0
    have hN := hat.nx.fN (τ := τ)
    have hn := hat.nx.nN (τ := τ)
    refine ⟨hN.1, fun f => ⟨fun _ => ⟨hn.1, trivial⟩, fun _ => ⟨hn.1, trivial⟩, hx, ?_⟩, fun f => k0 (hN.2.mp f)⟩
    rw [hN.2, Classical.not_not] at f
    rw [hn.2]
    rintro J2 rfl
    have ha := hat.nx.upadv (τ := τ) (b := τ 4 + 1) (k := x1.toNatClampNeg) (v := if v1 = 0 then cr_num (I 2) (cr_nx (I 2) (cr_tL I) (cr_tt I)) else -(cr_num (I 2) (cr_nx (I 2) (cr_tL I) (cr_tt I)))) (by omega)
    refine ⟨ha.1, fun J3 hJ3 => ?_⟩
    rw [ha.2 J3 hJ3]
    exact k1 _ rfl f
  refine bk_yX7_parseWish_0 hτ h ⟨hok, fun c => ⟨hok, ?_⟩, fun c => ⟨hx, ?_⟩⟩
  · rw [cr_fW0] at c
    intro v1 ev
    have hv : v1 = 0 ↔ ¬ cr_isW (I 2) (cr_tt I) 1 = true := by rw [ev, cr_fW0]
    refine ⟨fun d => ⟨adv0.1, fun J1 hJ1 => ?_⟩, fun d => ⟨hok, fun e => ⟨adv0.1, fun J1 hJ1 => ?_⟩, fun e => ?_⟩⟩
    · have d' := d
      rw [hv, Classical.not_not] at d'
      refine tail v1 J1 (adv0.2 J1 hJ1) (fun k ek q => ?_) (fun q => ?_)
      · rw [if_neg d, ek]
        exact hKt _ _ (by rw [if_neg c, if_pos d', if_pos q])
      · exact hKf 0 _ (by rw [if_neg c, if_pos d', if_neg q])
    · rw [hv] at d
      rw [cr_fW0, Classical.not_not] at e
      refine tail v1 J1 (adv0.2 J1 hJ1) (fun k ek q => ?_) (fun q => ?_)
      · rw [if_pos (hv.mpr d), ek]
        exact hKt _ _ (by rw [if_neg c, if_neg d, if_pos e, if_pos q])
      · exact hKf 0 _ (by rw [if_neg c, if_neg d, if_pos e, if_neg q])
    · rw [hv] at d
      rw [cr_fW0] at e
      have := hKf 0 (cr_tt I) (by rw [if_neg c, if_neg d, if_neg e])
      rw [hI] at this
      exact this
  · rw [cr_fW0, Classical.not_not] at c
    rintro J rfl
    have ha := hat.upadv (τ := τ) (b := τ 4 + 1) (k := x1.toNatClampNeg) (v := 0) (by omega)
    rw [hI] at ha
    refine ⟨ha.1, fun J3 hJ3 => ?_⟩
    rw [ha.2 J3 hJ3]
    exact hKt 0 _ (by rw [if_pos c]))
