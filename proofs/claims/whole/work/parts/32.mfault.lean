/-! the whole text: the reference -/
def cr_twf (B : Nat → Int32) (L : Nat) (t : cr_tk) : Prop := t.2 = cr_te B L t.1
theorem cr_wsS_wf {B : Nat → Int32} {L : Nat} {t : cr_tk} (h : cr_twf B L t) : cr_twf B L (cr_wsS B L t).2.1 := by
  have h1 : cr_twf B L (cr_nx B L t) := rfl
  have h2 : cr_twf B L (cr_nx B L (cr_nx B L t)) := rfl
  unfold cr_wsS
  repeat' split
  all_goals assumption
theorem cr_tsS_wf {B : Nat → Int32} {L : Nat} {t : cr_tk} (h : cr_twf B L t) : cr_twf B L (cr_tsS B L t).2.1 := by
  have h1 : cr_twf B L (cr_nx B L t) := rfl
  have h2 : cr_twf B L (cr_nx B L (cr_nx B L t)) := rfl
  have h3 : cr_twf B L (cr_nx B L (cr_nx B L (cr_nx B L t))) := rfl
  unfold cr_tsS
  repeat' split
  all_goals assumption
theorem cr_tst_wf {B : Nat → Int32} {L : Nat} {t : cr_tk} : ∀ k, cr_twf B L (cr_tst B L t k)
  | 0 => rfl
  | k + 1 => rfl
theorem cr_tlS_wf {B : Nat → Int32} {L : Nat} {t : cr_tk} : ∀ m k, cr_twf B L (cr_tlS B L t m k).2.1
  | 0, k => cr_tsS_wf (cr_tst_wf _)
  | m + 1, k => by
    have h1 := cr_tsS_wf (B := B) (cr_tst_wf (B := B) (L := L) (t := t) k)
    rw [cr_tlS]
    split
    · split
      · exact cr_tlS_wf m (k + 1)
      · exact h1
    · exact h1
theorem cr_lnS_wf {B : Nat → Int32} {L : Nat} {t : cr_tk} (h : cr_twf B L t) : cr_twf B L (cr_lnS B L t).2.1 := by
  have h1 := cr_wsS_wf (B := B) h
  unfold cr_lnS
  split
  · split
    · exact cr_tlS_wf 4 0
    · exact h1
  · exact h1
theorem cr_lnt_wf {B : Nat → Int32} {L : Nat} : ∀ j, cr_twf B L (cr_lnt B L j)
  | 0 => rfl
  | j + 1 => rfl
def cr_Pf (b i : Nat) : Prop := (b = 200 ∧ 44 ≤ i ∧ i ≤ 47) ∨ (b = 206 ∧ i = 4) ∨ ((b = 207 ∨ b = 208 ∨ b = 209) ∧ 24 ≤ i) ∨ ((b = 210 ∨ b = 211 ∨ b = 212) ∧ 96 ≤ i)
def p_yX9_fault (τ : Nat → Nat) (I : cr_I) : Prop := 0 ≤ (I 200 5).toInt ∧ (I 200 5).toInt ≤ 160
def q_yX9_fault (τ : Nat → Nat) (I : cr_I) (r : Int32) (J : cr_I) : Prop := cr_F cr_Pf I J ∧ ((∃ p, (cr_paS (I 205) (cr_mL I) 6 0).1 = some p ∧ p ≤ 160 ∧ r = nI p) ∨ ((cr_paS (I 205) (cr_mL I) 6 0).1 = none ∧ r = -1 ∧ J 206 4 = nI (cr_paS (I 205) (cr_mL I) 6 0).2 ∧ (1 ≤ (cr_paS (I 205) (cr_mL I) 6 0).2 ∧ (cr_paS (I 205) (cr_mL I) 6 0).2 ≤ 6) ∧ ∀ l, l < (cr_paS (I 205) (cr_mL I) 6 0).2 → cr_lnM (24 + l) J (I 205) (cr_mL I) (cr_lnt (I 205) (cr_mL I) l)))
theorem cr_lnM.eqv {l L : Nat} {M N : cr_I} {B : Nat → Int32} {u : cr_tk} (h : cr_lnM l M B L u) (e7 : N 207 l = M 207 l) (e8 : N 208 l = M 208 l) (e9 : N 209 l = M 209 l) (e10 : ∀ k, k < 4 → N 210 (4 * l + k) = M 210 (4 * l + k)) (e11 : ∀ k, k < 4 → N 211 (4 * l + k) = M 211 (4 * l + k)) (e12 : ∀ k, k < 4 → N 212 (4 * l + k) = M 212 (4 * l + k)) : cr_lnM l N B L u := by
  unfold cr_lnM at *
  rw [e7, e8, e9]
  refine ⟨h.1, h.2.1, fun k hk => ?_⟩
  have h4 := cr_lnS_n (B := B) (L := L) (t := u)
  rw [e10 k (by omega), e11 k (by omega), e12 k (by omega)]
  exact h.2.2 k hk
theorem bk_yX9_fault_0 {Γ : cr_G} {K : cr_K} {τ : Nat → Nat} {I : cr_I}  (hτ : cr_tau τ)  (h : cr_Ok yX9_fault cX9_fault 2 (some .int) (cr_rm0 5 108) K 247 247 Γ) (hyp : ∀ J1 : cr_I, J1 = cr_up I 200 44 (0 : Int32) → (∀ J2 : cr_I, J2 = cr_up J1 206 4 (0 : Int32) → (p_yX9_token τ J2 ∧ (∀ (J3 : cr_I), q_yX9_token τ J2 J3 → (p_yX9_readsLine τ J3 ∧ (∀ (r2 : Int32) (J4 : cr_I), q_yX9_readsLine τ J3 r2 J4 → ((¬ r2 = 0 → cr_V Γ 28 [.ref 200, .null] [] J4 (cr_rf τ) 247) ∧ (r2 = 0 → K (some (.int (J4 200 45))) J4 (cr_rf τ))))))))) : cr_V Γ 0 [.ref 200, .null] [] I (cr_rf τ) 247 := by
  refine cr_aload_n h (j := 0) rfl rfl dX9_fault_0 ?_
  refine cr_iconst h (v := (0 : Int32)) (by decide) dX9_fault_1 ?_
  refine cs_put h (k := 44) cr_clsX9 (by decide) rfl rfl rfl rfl wf_X9_175 (by decide) (by decide) rfl dX9_fault_2 (fun J1 eJ1 => ?_)
  have hyp := hyp J1 eJ1
  refine cr_aload_n h (j := 0) rfl rfl dX9_fault_5 ?_
  refine cr_getR h (k := 6) cr_clsX9 (by decide) rfl rfl wf_X9_25 (by decide) rfl rfl dX9_fault_6 ?_
  refine cr_iconst h (v := (4 : Int32)) (by decide) dX9_fault_9 ?_
  refine cr_iconst h (v := (0 : Int32)) (by decide) dX9_fault_10 ?_
  refine cs_ist h (by decide) (by decide) rfl (by decide) (q := 4) (by decide) dX9_fault_11 (fun J2 eJ2 => ?_)
  have hyp := hyp J2 eJ2
  refine cr_aload_n h (j := 0) rfl rfl dX9_fault_12 ?_
  refine cr_callV h (c0 := 9) (T0 := TX9) C_yX9_token cZ_yX9_token wm_X9_194 wv_yX9_token we_yX9_token (by decide) rfl rfl (cr_rmS (by decide) (by decide)) (As := []) rfl (Nat.le_of_ble_eq_true rfl) dX9_fault_13 ⟨τ, rfl, hτ, rfl, hyp.1, fun J3 q1 => ?_⟩
  have hyp := hyp.2 J3 q1
  show cr_V Γ 16 [.ref 200, .null] [] J3 (cr_rf τ) 247
  refine cr_aload_n h (j := 0) rfl rfl dX9_fault_16 ?_
  refine cr_callV h (c0 := 9) (T0 := TX9) C_yX9_readsLine cZ_yX9_readsLine wm_X9_240 wv_yX9_readsLine we_yX9_readsLine (by decide) rfl rfl (cr_rmS (by decide) (by decide)) (As := []) rfl (Nat.le_of_ble_eq_true rfl) dX9_fault_17 ⟨τ, rfl, hτ, rfl, hyp.1, fun r2 J4 q2 => ?_⟩
  have hyp := hyp.2 r2 J4 q2
  show cr_V Γ 20 [.ref 200, .null] [.int r2] J4 (cr_rf τ) 247
  refine cr_if_ne h (tgt := 28) (by decide) dX9_fault_20 (fun c1 => ?_) (fun c1 => ?_)
  · have hyp := hyp.1 c1
    exact cr_weak [true, false] hyp
  · have hyp := hyp.2 c1
    refine cr_aload_n h (j := 0) rfl rfl dX9_fault_23 ?_
    refine cr_getI h (k := 45) cr_clsX9 (by decide) rfl rfl wf_X9_178 (by decide) rfl dX9_fault_24 ?_
    refine cr_iret h rfl rfl rfl dX9_fault_27 ?_
    exact hyp
theorem bk_yX9_fault_28 {Γ : cr_G} {K : cr_K} {τ : Nat → Nat} {I : cr_I}  (hτ : cr_tau τ)  (h : cr_Ok yX9_fault cX9_fault 2 (some .int) (cr_rm0 5 108) K 247 247 Γ) (hyp : ((I 200 5) ≤ (I 200 45) → K (some (.int (-1 : Int32))) I (cr_rf τ)) ∧ (¬ (I 200 5) ≤ (I 200 45) → ((¬ ((I 200 46) - (I 200 45)) = (1 : Int32) → True) ∧ (((I 200 46) - (I 200 45)) = (1 : Int32) → ((0 ≤ (I 200 45).toInt ∧ (I 200 45).toInt < 160) ∧ True)) ∧ (∀ v1 : Int32, v1 = (if ((I 200 46) - (I 200 45)) = (1 : Int32) then (if (I 205 (I 200 45).toNatClampNeg) = (59 : Int32) then (if (6 : Int32) ≤ (I 206 4) then (0 : Int32) else (1 : Int32)) else (0 : Int32)) else (0 : Int32)) → ((v1 = 0 → ((¬ v1 = 0 → cr_V Γ 28 [.ref 200, .null] [] I (cr_rf τ) 247) ∧ (v1 = 0 → K (some (.int (I 200 45))) I (cr_rf τ)))) ∧ (¬ v1 = 0 → (p_yX9_token τ I ∧ (∀ (J5 : cr_I), q_yX9_token τ I J5 → (p_yX9_readsLine τ J5 ∧ (∀ (r4 : Int32) (J6 : cr_I), q_yX9_readsLine τ J5 r4 J6 → ((¬ r4 = 0 → cr_V Γ 28 [.ref 200, .null] [] J6 (cr_rf τ) 247) ∧ (r4 = 0 → K (some (.int (J6 200 45))) J6 (cr_rf τ))))))))))))) : cr_V Γ 28 [.ref 200, .null] [] I (cr_rf τ) 247 := by
  refine cr_aload_n h (j := 0) rfl rfl dX9_fault_28 ?_
  refine cr_getI h (k := 45) cr_clsX9 (by decide) rfl rfl wf_X9_178 (by decide) rfl dX9_fault_29 ?_
  refine cr_aload_n h (j := 0) rfl rfl dX9_fault_32 ?_
  refine cr_getI h (k := 5) cr_clsX9 (by decide) rfl rfl wf_X9_170 (by decide) rfl dX9_fault_33 ?_
  refine cr_icmp_ge h (tgt := 108) (by decide) dX9_fault_36 (fun c2 => ?_) (fun c2 => ?_)
  · have hyp := hyp.1 c2
    refine cr_iconst h (v := (-1 : Int32)) (by decide) dX9_fault_108 ?_
    refine cr_iret h rfl rfl rfl dX9_fault_109 ?_
    exact hyp
  · have hyp := hyp.2 c2
    refine cr_aload_n h (j := 0) rfl rfl dX9_fault_39 ?_
    refine cr_getI h (k := 46) cr_clsX9 (by decide) rfl rfl wf_X9_185 (by decide) rfl dX9_fault_40 ?_
    refine cr_aload_n h (j := 0) rfl rfl dX9_fault_43 ?_
    refine cr_getI h (k := 45) cr_clsX9 (by decide) rfl rfl wf_X9_178 (by decide) rfl dX9_fault_44 ?_
    refine cr_isub h dX9_fault_47 ?_
    refine cr_iconst h (v := (1 : Int32)) (by decide) dX9_fault_48 ?_
    have hsJ7 := hyp.1
    have htJ7 := hyp.2.1
    have hyp := hyp.2.2
    have J7 : cr_V Γ 82 [.ref 200, .null] [.int (if ((I 200 46) - (I 200 45)) = (1 : Int32) then (if (I 205 (I 200 45).toNatClampNeg) = (59 : Int32) then (if (6 : Int32) ≤ (I 206 4) then (0 : Int32) else (1 : Int32)) else (0 : Int32)) else (0 : Int32))] I (cr_rf τ) 247 := by
      refine cs_i_n h 1 rfl (by decide) rfl dX9_fault_82 (fun v1 ev1 => ?_)
      have hyp := hyp v1 ev1
      show cr_V Γ 83 [.ref 200, .int v1] [] I (cr_rf τ) 247
      refine cr_iload_n h (j := 1) rfl rfl dX9_fault_83 ?_
      refine cr_if_eq h (tgt := 96) (by decide) dX9_fault_84 (fun c6 => ?_) (fun c6 => ?_)
      · have hyp := hyp.1 c6
        refine cr_iload_n h (j := 1) rfl rfl dX9_fault_96 ?_
        refine cr_if_ne h (tgt := 105) (by decide) dX9_fault_97 (fun c7 => ?_) (fun c7 => ?_)
        · have hyp := hyp.1 c7
          refine cr_goto h (tgt := 28) (by decide) dX9_fault_105 ?_
          exact cr_weak [true, false] hyp
        · have hyp := hyp.2 c7
          refine cr_aload_n h (j := 0) rfl rfl dX9_fault_100 ?_
          refine cr_getI h (k := 45) cr_clsX9 (by decide) rfl rfl wf_X9_178 (by decide) rfl dX9_fault_101 ?_
          refine cr_iret h rfl rfl rfl dX9_fault_104 ?_
          exact hyp
      · have hyp := hyp.2 c6
        refine cr_aload_n h (j := 0) rfl rfl dX9_fault_87 ?_
        refine cr_callV h (c0 := 9) (T0 := TX9) C_yX9_token cZ_yX9_token wm_X9_194 wv_yX9_token we_yX9_token (by decide) rfl rfl (cr_rmS (by decide) (by decide)) (As := []) rfl (Nat.le_of_ble_eq_true rfl) dX9_fault_88 ⟨τ, rfl, hτ, rfl, hyp.1, fun J5 q3 => ?_⟩
        have hyp := hyp.2 J5 q3
        show cr_V Γ 91 [.ref 200, .int v1] [] J5 (cr_rf τ) 247
        refine cr_aload_n h (j := 0) rfl rfl dX9_fault_91 ?_
        refine cr_callV h (c0 := 9) (T0 := TX9) C_yX9_readsLine cZ_yX9_readsLine wm_X9_240 wv_yX9_readsLine we_yX9_readsLine (by decide) rfl rfl (cr_rmS (by decide) (by decide)) (As := []) rfl (Nat.le_of_ble_eq_true rfl) dX9_fault_92 ⟨τ, rfl, hτ, rfl, hyp.1, fun r4 J6 q4 => ?_⟩
        have hyp := hyp.2 r4 J6 q4
        show cr_V Γ 95 [.ref 200, .int v1] [.int r4] J6 (cr_rf τ) 247
        refine cr_istore_n h (j := 1) rfl (by decide) rfl dX9_fault_95 ?_
        show cr_V Γ 96 [.ref 200, .int r4] [] J6 (cr_rf τ) 247
        refine cr_iload_n h (j := 1) rfl rfl dX9_fault_96 ?_
        refine cr_if_ne h (tgt := 105) (by decide) dX9_fault_97 (fun c8 => ?_) (fun c8 => ?_)
        · have hyp := hyp.1 c8
          refine cr_goto h (tgt := 28) (by decide) dX9_fault_105 ?_
          exact cr_weak [true, false] hyp
        · have hyp := hyp.2 c8
          refine cr_aload_n h (j := 0) rfl rfl dX9_fault_100 ?_
          refine cr_getI h (k := 45) cr_clsX9 (by decide) rfl rfl wf_X9_178 (by decide) rfl dX9_fault_101 ?_
          refine cr_iret h rfl rfl rfl dX9_fault_104 ?_
          exact hyp
    refine cr_icmp_ne h (tgt := 81) (by decide) dX9_fault_49 (fun c3 => ?_) (fun c3 => ?_)
    · refine cr_iconst h (v := (0 : Int32)) (by decide) dX9_fault_81 ?_
      exact cr_ite (by rw [if_neg c3]) J7
    · have hyp := htJ7 c3
      refine cr_aload_n h (j := 0) rfl rfl dX9_fault_52 ?_
      refine cr_getR h (k := 4) cr_clsX9 (by decide) rfl rfl wf_X9_22 (by decide) rfl rfl dX9_fault_53 ?_
      refine cr_aload_n h (j := 0) rfl rfl dX9_fault_56 ?_
      refine cr_getI h (k := 45) cr_clsX9 (by decide) rfl rfl wf_X9_178 (by decide) rfl dX9_fault_57 ?_
      refine cs_ild h (by decide) rfl hyp.1 (q := (I 200 45).toNatClampNeg) rfl dX9_fault_60 ?_
      have hyp := hyp.2
      refine cr_bipush h (v := (59 : Int32)) (by decide) dX9_fault_61 ?_
      refine cr_icmp_ne h (tgt := 81) (by decide) dX9_fault_63 (fun c4 => ?_) (fun c4 => ?_)
      · refine cr_iconst h (v := (0 : Int32)) (by decide) dX9_fault_81 ?_
        exact cr_ite (by rw [if_pos c3, if_neg c4]) J7
      · refine cr_aload_n h (j := 0) rfl rfl dX9_fault_66 ?_
        refine cr_getR h (k := 6) cr_clsX9 (by decide) rfl rfl wf_X9_25 (by decide) rfl rfl dX9_fault_67 ?_
        refine cr_iconst h (v := (4 : Int32)) (by decide) dX9_fault_70 ?_
        refine cs_ild h (by decide) rfl (by decide) (q := 4) (by decide) dX9_fault_71 ?_
        refine cr_bipush h (v := (6 : Int32)) (by decide) dX9_fault_72 ?_
        refine cr_icmp_ge h (tgt := 81) (by decide) dX9_fault_74 (fun c5 => ?_) (fun c5 => ?_)
        · refine cr_iconst h (v := (0 : Int32)) (by decide) dX9_fault_81 ?_
          exact cr_ite (by rw [if_pos c3, if_pos c4, if_pos c5]) J7
        · refine cr_iconst h (v := (1 : Int32)) (by decide) dX9_fault_77 ?_
          refine cr_goto h (tgt := 82) (by decide) dX9_fault_78 ?_
          exact cr_ite (by rw [if_pos c3, if_pos c4, if_neg c5]) J7
abbrev T_yX9_fault : cr_T := fun vs I R K => ∃ (τ : Nat → Nat), R = cr_rf τ ∧ cr_tau τ ∧ vs = [.ref 200] ∧ p_yX9_fault τ I ∧ ∀ (r : Int32) J, q_yX9_fault τ I r J → K (some (.int r)) J (cr_rf τ)
abbrev S_yX9_fault : Prop := cr_C yX9_fault cX9_fault 2 (some .int) (cr_rm0 5 108) 247 247 T_yX9_fault
theorem G_yX9_fault (H : ∀ (Γ : cr_G) (K : cr_K) (τ : Nat → Nat) (I : cr_I), cr_tau τ → cr_Ok yX9_fault cX9_fault 2 (some .int) (cr_rm0 5 108) K 247 247 Γ → p_yX9_fault τ I → (∀ (r : Int32) J, q_yX9_fault τ I r J → K (some (.int r)) J (cr_rf τ)) → cr_V Γ 0 [.ref 200, .null] [] I (cr_rf τ) 247) : cr_C yX9_fault cX9_fault 2 (some .int) (cr_rm0 5 108) 247 247 T_yX9_fault := by
  refine cr_C.of (by decide +kernel) (fun vs I R K hT => ?_) (fun Γ K h vs I R hT => ?_)
  · obtain ⟨τ, rfl, hτ, rfl, hp, hK⟩ := hT
    exact Nat.le_of_ble_eq_true rfl
  · obtain ⟨τ, rfl, hτ, rfl, hp, hK⟩ := hT
    exact H Γ K τ I hτ h hp hK
theorem C_yX9_fault : S_yX9_fault := G_yX9_fault (by
  intro Γ K τ I hτ h hp hK
  obtain ⟨eL, hLN⟩ := cr_ofI (B := 160) hp.1 hp.2
  have eL' : I 200 5 = nI (cr_mL I) := eL
  have hLN' : cr_mL I ≤ 160 := hLN
  unfold q_yX9_fault at hK
  generalize hL : cr_mL I = L at *
  generalize hB : I 205 = B at *
  generalize hR : cr_paS B L 6 0 = R at *
  have fB : ∀ {J : cr_I}, cr_F cr_Pf I J → J 205 = B := fun hf => by rw [← hB]; exact funext fun k => hf 205 k (by unfold cr_Pf; omega)
  have fL : ∀ {J : cr_I}, cr_F cr_Pf I J → cr_mL J = L := fun hf => by rw [← hL]; unfold cr_mL; rw [hf 200 5 (by unfold cr_Pf; omega)]
  have hKs : ∀ (J : cr_I) (u : cr_tk), cr_F cr_Pf I J → cr_mt J u → R.1 = some u.1 → K (some (.int (J 200 45))) J (cr_rf τ) := by
    intro J u hf hm hr
    rw [hm.2.1.2.1]
    have := hm.2.2
    rw [fL hf] at this
    exact hK _ _ ⟨hf, Or.inl ⟨u.1, hr, by unfold cr_tok at this; omega, rfl⟩⟩
  have line : ∀ (j : Nat) (J : cr_I), j ≤ 5 → cr_F cr_Pf I J → cr_mt J (cr_lnt B L j) → J 206 4 = nI j → (∀ l, l < j → cr_lnM (24 + l) J B L (cr_lnt B L l)) → ((cr_lnS B L (cr_lnt B L j)).1 = true → ∀ J', cr_F cr_Pf I J' → cr_mt J' (cr_lnS B L (cr_lnt B L j)).2.1 → J' 206 4 = nI (j + 1) → (∀ l, l < j + 1 → cr_lnM (24 + l) J' B L (cr_lnt B L l)) → cr_V Γ 28 [.ref 200, .null] [] J' (cr_rf τ) 247) → (¬ (cr_lnS B L (cr_lnt B L j)).1 = true → R.1 = some (cr_lnS B L (cr_lnt B L j)).2.1.1) → (p_yX9_readsLine τ J ∧ (∀ (r2 : Int32) (J4 : cr_I), q_yX9_readsLine τ J r2 J4 → ((¬ r2 = 0 → cr_V Γ 28 [.ref 200, .null] [] J4 (cr_rf τ) 247) ∧ (r2 = 0 → K (some (.int (J4 200 45))) J4 (cr_rf τ))))) := by
    intro j J hj hf hm j4 hlns k1 k0
    have tk := hm.tk
    refine ⟨⟨by rw [tk]; exact hm, by rw [j4, cr_nt (by omega)]; omega⟩, fun r J4 hq => ?_⟩
    unfold q_yX9_readsLine at hq
    rw [tk, fB hf, fL hf, j4, cr_nc (by omega)] at hq
    obtain ⟨g1, g2, g3, g4⟩ := hq
    have hf4 : cr_F cr_Pf I J4 := hf.tr (g1.wd (fun b i z => by unfold cr_Pq at z; unfold cr_Pf; omega))
    by_cases ok : (cr_lnS B L (cr_lnt B L j)).1 = true
    · obtain ⟨rfl, j5, hl⟩ := g3 ok
      refine ⟨fun _ => k1 ok J4 hf4 g2 j5 (fun l hlj => ?_), fun z => absurd z (by decide)⟩
      by_cases e : l = j
      · rw [e]; exact hl
      · refine (hlns l (by omega)).eqv ?_ ?_ ?_ (fun k hk => ?_) (fun k hk => ?_) (fun k hk => ?_) <;> exact g1 _ _ (by unfold cr_Pq; omega)
    · have r0 := g4 ok
      subst r0
      exact ⟨fun z => absurd rfl z, fun _ => hKs J4 _ hf4 g2 (k0 ok)⟩
  have key : ∀ m j, j + 1 + m = 6 → ∀ J, cr_F cr_Pf I J → cr_mt J (cr_lnS B L (cr_lnt B L j)).2.1 → J 206 4 = nI (j + 1) → (∀ l, l < j + 1 → cr_lnM (24 + l) J B L (cr_lnt B L l)) → (cr_lnS B L (cr_lnt B L j)).1 = true → R = cr_paS B L (m + 1) j → cr_V Γ 28 [.ref 200, .null] [] J (cr_rf τ) 247 := by
    intro m
    induction m with
    | zero =>
      intro j hj J hf hm j4 hlns ok hRe
      have e5 : J 200 5 = nI L := by rw [hm.1.1, fL hf]
      have htok := hm.2.2
      rw [fL hf] at htok
      rw [cr_paS, if_pos ok] at hRe
      have R0 : cr_paS B L 0 (j + 1) = (some (cr_lnS B L (cr_lnt B L j)).2.1.1, j + 1) := rfl
      rw [R0] at hRe
      generalize (cr_lnS B L (cr_lnt B L j)).2.1 = tk at *
      have ele : (J 200 5 ≤ J 200 45) ↔ L ≤ tk.1 := by rw [e5, hm.2.1.2.1]; exact cr_nlq (by unfold cr_tok at htok; omega) (by unfold cr_tok at htok; omega)
      have e45c : (J 200 45).toNatClampNeg = tk.1 := by rw [hm.2.1.2.1]; exact cr_nc (by unfold cr_tok at htok; omega)
      refine bk_yX9_fault_28 hτ h ⟨fun c => ?_, fun c => ⟨fun _ => trivial, fun _ => ⟨?_, trivial⟩, ?_⟩⟩
      · rw [ele] at c
        rw [if_neg (by omega)] at hRe
        exact hK _ _ ⟨hf, Or.inr ⟨by rw [hRe], rfl, by rw [hRe]; exact j4, by rw [hRe]; simp only; omega, fun l hl => by rw [hRe] at hl; exact hlns l hl⟩⟩
      · rw [ele] at c
        rw [hm.2.1.2.1]
        exact cr_ix (by omega) (by omega)
      · rw [ele] at c
        rw [if_pos (by omega)] at hRe
        have hj5 : j + 1 = 6 := by omega
        have v0 : (if ((J 200 46) - (J 200 45)) = (1 : Int32) then (if (J 205 (J 200 45).toNatClampNeg) = (59 : Int32) then (if (6 : Int32) ≤ (J 206 4) then (0 : Int32) else (1 : Int32)) else (0 : Int32)) else (0 : Int32)) = 0 := by
          rw [j4, hj5, if_pos (show (6 : Int32) ≤ nI 6 by decide)]
          split
          · split <;> rfl
          · rfl
        rw [v0]
        rintro v1 rfl
        refine ⟨fun _ => ⟨fun z => absurd rfl z, fun _ => hKs J tk hf hm ?_⟩, fun z => absurd rfl z⟩
        rw [hRe]
        split <;> rfl
    | succ m ih =>
      intro j hj J hf hm j4 hlns ok hRe
      have e5 : J 200 5 = nI L := by rw [hm.1.1, fL hf]
      have htok := hm.2.2
      rw [fL hf] at htok
      have hwf := cr_lnS_wf (B := B) (cr_lnt_wf (B := B) (L := L) j)
      have hRe := hRe.trans (show cr_paS B L (m + 1 + 1) j = (if (cr_lnS B L (cr_lnt B L j)).1 = true then (if (cr_lnS B L (cr_lnt B L j)).2.1.1 < L then (if B (cr_lnS B L (cr_lnt B L j)).2.1.1 = 59 then cr_paS B L (m + 1) (j + 1) else (some (cr_lnS B L (cr_lnt B L j)).2.1.1, j)) else (none, j + 1)) else (some (cr_lnS B L (cr_lnt B L j)).2.1.1, j)) by rw [cr_paS])
      rw [if_pos ok] at hRe
      have hnx : cr_nx B L (cr_lnS B L (cr_lnt B L j)).2.1 = cr_lnt B L (j + 1) := rfl
      generalize (cr_lnS B L (cr_lnt B L j)).2.1 = tk at *
      have hb1 : tk.1 ≤ tk.2 ∧ tk.2 ≤ 160 := by unfold cr_tok at htok; omega
      have ele : (J 200 5 ≤ J 200 45) ↔ L ≤ tk.1 := by rw [e5, hm.2.1.2.1]; exact cr_nlq (by omega) (by omega)
      have e45c : (J 200 45).toNatClampNeg = tk.1 := by rw [hm.2.1.2.1]; exact cr_nc (by omega)
      have esub : J 200 46 - J 200 45 = nI (tk.2 - tk.1) := by
        rw [hm.2.1.2.1, hm.2.1.2.2]
        apply Int32.toInt_inj.mp
        rw [cr_sub (by rw [cr_nt (by omega), cr_nt (by omega)]; omega), cr_nt (by omega), cr_nt (by omega), cr_nt (by omega)]
        omega
      refine bk_yX9_fault_28 hτ h ⟨fun c => ?_, fun c => ⟨fun _ => trivial, fun _ => ⟨?_, trivial⟩, ?_⟩⟩
      · rw [ele] at c
        rw [if_neg (by omega)] at hRe
        exact hK _ _ ⟨hf, Or.inr ⟨by rw [hRe], rfl, by rw [hRe]; exact j4, by rw [hRe]; simp only; omega, fun l hl => by rw [hRe] at hl; exact hlns l hl⟩⟩
      · rw [ele] at c
        rw [hm.2.1.2.1]
        exact cr_ix (by omega) (by omega)
      · rw [ele] at c
        rw [if_pos (by omega)] at hRe
        have e1 : (nI (tk.2 - tk.1) = (1 : Int32)) ↔ tk.2 - tk.1 = 1 := cr_neq (b := 1) (by omega) (by omega)
        have e6 : ¬ (6 : Int32) ≤ nI (j + 1) := nI_ge (a := j + 1) (b := 6) (by omega) (by omega)
        have vv : (if ((J 200 46) - (J 200 45)) = (1 : Int32) then (if (J 205 (J 200 45).toNatClampNeg) = (59 : Int32) then (if (6 : Int32) ≤ (J 206 4) then (0 : Int32) else (1 : Int32)) else (0 : Int32)) else (0 : Int32)) = if B tk.1 = 59 then 1 else 0 := by
          rw [esub, e45c, fB hf, j4, if_neg e6]
          by_cases q : B tk.1 = 59
          · have ht : tk.2 = tk.1 + 1 := by
              rw [show tk.2 = cr_te B L tk.1 from hwf, cr_te_sign (by omega) (by rw [q]; decide)]
            rw [if_pos (e1.mpr (by omega))]
          · rw [if_neg q]
            split <;> rfl
        rw [vv]
        rintro v1 rfl
        by_cases q : B tk.1 = 59
        · rw [if_pos q]
          rw [if_pos q] at hRe
          have ha := hm.adv (τ := τ)
          rw [fB hf, fL hf, hnx] at ha
          refine ⟨fun z => absurd z (by decide), fun _ => ⟨ha.1, fun J5 hJ5 => ?_⟩⟩
          obtain ⟨k1, k2⟩ := ha.2 J5 hJ5
          refine line (j + 1) J5 (by omega) (hf.tr (k1.F (fun b i z => by unfold cr_Pf; omega))) k2 (by rw [k1 206 4 (by omega)]; exact j4) (fun l hl => ?_) (fun ok' J' g1 g2 g3 g4 => ?_) (fun ok' => ?_)
          · refine (hlns l hl).eqv ?_ ?_ ?_ (fun k hk => ?_) (fun k hk => ?_) (fun k hk => ?_) <;> exact k1 _ _ (by omega)
          · exact ih (j + 1) (by omega) J' g1 g2 g3 g4 ok' hRe
          · rw [hRe, cr_paS, if_neg ok']
        · rw [if_neg q]
          rw [if_neg q] at hRe
          exact ⟨fun _ => ⟨fun z => absurd rfl z, fun _ => hKs J tk hf hm (by rw [hRe])⟩, fun z => absurd rfl z⟩
  refine bk_yX9_fault_0 hτ h ?_
  rintro J1 rfl J2 rfl
  have f2 : cr_F cr_Pf I (cr_up (cr_up I 200 44 0) 206 4 0) := (cr_F.rf.up (by unfold cr_Pf; omega)).up (by unfold cr_Pf; omega)
  have e44 : cr_up (cr_up I 200 44 (0 : Int32)) 206 4 0 200 44 = 0 := by rw [cr_up_b (by decide), cr_up_s]
  have e5 : cr_up (cr_up I 200 44 (0 : Int32)) 206 4 0 200 5 = I 200 5 := f2 200 5 (by unfold cr_Pf; omega)
  have e6 : cr_up (cr_up I 200 44 (0 : Int32)) 206 4 0 206 4 = 0 := cr_up_s
  have z0 : (0 : Int32).toInt = 0 := rfl
  generalize cr_up (cr_up I 200 44 (0 : Int32)) 206 4 0 = J2 at *
  refine ⟨⟨by rw [e5]; exact hp, by rw [e44, e5, z0]; exact ⟨Int.le_refl _, hp.1⟩⟩, fun J3 hJ3 => ?_⟩
  unfold q_yX9_token at hJ3
  rw [e44, fB f2, fL f2] at hJ3
  obtain ⟨k1, k2⟩ := hJ3
  refine line 0 J3 (by omega) (f2.tr (k1.F (fun b i z => by unfold cr_Pf; omega))) k2 (by rw [k1 206 4 (by omega)]; exact e6) (fun l hl => absurd hl (Nat.not_lt_zero _)) (fun ok' J' g1 g2 g3 g4 => ?_) (fun ok' => ?_)
  · exact key 5 0 rfl J' g1 g2 g3 g4 ok' hR.symm
  · rw [← hR, cr_paS, if_neg ok'])
