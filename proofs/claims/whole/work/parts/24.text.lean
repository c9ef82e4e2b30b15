/-! texts that the class names: a rule for each instruction of String -/
section CRT
variable {y : MethodName} {cc : ByteArray} {nL : Nat} {ret : Option FieldType} {rm : Room} {K : cr_K} {nS nE : Nat} {Γ : cr_G} {pc : Nat} {ls st : List Value} {I : cr_I} {R : cr_R} {n : Nat}
variable {z : MethodName} {cz : ByteArray} {nLz : Nat} {rz : Option FieldType} {rmz : Room} {n' idx : Nat} {T : cr_T} {As stk : List Value}
theorem cr_getSV (h : cr_Ok y cc nL ret rm K nS nE Γ) {w j : Nat} (hw : w < 13) (hf : Cond.fieldLink y.cls j "java/lang/String" "value" "[B" ∈ cr_GW) (d : decode cc pc = .ok (.getfield j, 3)) (k1 : cr_V Γ (pc + 3) ls (.ref (1100 + w) :: st) I R n) : cr_V Γ pc ls (.ref (1003 + w) :: st) I R n := by
  obtain ⟨⟨p, l, e, Rm, s, m, args, below, meth, c⟩, Q, D, g, ad, base, n0⟩ := Γ
  obtain ⟨hx, hb, hml, hown, hts, hK, hST, hlk, hrt, hA, hs0, hQ, hrm, hnm, hn0⟩ := h
  intro H locs la hP hz hS hl
  exact vk_getf hx hb (hST.2.2.2.1.1 w hw).2.2.1 hS hown (hts _ hf) (fun _ q => q) d (k1 H locs la hP hz hS hl)
theorem cr_getSC (h : cr_Ok y cc nL ret rm K nS nE Γ) {w j : Nat} (hw : w < 13) (hf : Cond.fieldLink y.cls j "java/lang/String" "coder" "B" ∈ cr_GW) (d : decode cc pc = .ok (.getfield j, 3)) (k1 : cr_V Γ (pc + 3) ls (.int (0 : Int32) :: st) I R n) : cr_V Γ pc ls (.ref (1003 + w) :: st) I R n := by
  obtain ⟨⟨p, l, e, Rm, s, m, args, below, meth, c⟩, Q, D, g, ad, base, n0⟩ := Γ
  obtain ⟨hx, hb, hml, hown, hts, hK, hST, hlk, hrt, hA, hs0, hQ, hrm, hnm, hn0⟩ := h
  intro H locs la hP hz hS hl
  exact vk_getf hx hb (hST.2.2.2.1.1 w hw).2.1 hS hown (hts _ hf) (fun _ q => q) d (k1 H locs la hP hz hS hl)
theorem cr_sbL (h : cr_Ok y cc nL ret rm K nS nE Γ) {w : Nat} (hw : w < 13) (d : decode cc pc = .ok (.arraylength, 1)) (k1 : cr_V Γ (pc + 1) ls (.int (nI (cr_txL.getD w 0)) :: st) I R n) : cr_V Γ pc ls (.ref (1100 + w) :: st) I R n := by
  obtain ⟨⟨p, l, e, Rm, s, m, args, below, meth, c⟩, Q, D, g, ad, base, n0⟩ := Γ
  obtain ⟨hx, hb, hml, hown, hts, hK, hST, hlk, hrt, hA, hs0, hQ, hrm, hnm, hn0⟩ := h
  intro H locs la hP hz hS hl
  exact va_tlen hx hb (hST.2.2.2.1.1 w hw).2.2.2 hS rfl d (k1 H locs la hP hz hS hl)
theorem cr_sbA (h : cr_Ok y cc nL ret rm K nS nE Γ) {w : Nat} {i : Int32} (hw : w < 13) (h0 : 0 ≤ i.toInt ∧ i.toInt < ((cr_txL.getD w 0 : Nat) : Int)) (d : decode cc pc = .ok (.baload, 1)) (k1 : cr_V Γ (pc + 1) ls (.int ((cr_txB.getD w []).getD i.toNatClampNeg 0) :: st) I R n) : cr_V Γ pc ls (.int i :: .ref (1100 + w) :: st) I R n := by
  obtain ⟨⟨p, l, e, Rm, s, m, args, below, meth, c⟩, Q, D, g, ad, base, n0⟩ := Γ
  obtain ⟨hx, hb, hml, hown, hts, hK, hST, hlk, hrt, hA, hs0, hQ, hrm, hnm, hn0⟩ := h
  intro H locs la hP hz hS hl
  exact va_tb hx hb (hST.2.2.2.1.1 w hw).2.2.2 hS (cr_vin h0.1 h0.2) rfl d (k1 H locs la hP hz hS hl)
theorem cr_getsC (h : cr_Ok y cc nL ret rm K nS nE Γ) {j : Nat} (hf : Cond.fieldLink y.cls j "java/lang/String" "COMPACT_STRINGS" "Z" ∈ cr_GW) (d : decode cc pc = .ok (.getstatic j, 3)) (k1 : cr_V Γ (pc + 3) ls (.int (1 : Int32) :: st) I R n) : cr_V Γ pc ls st I R n := by
  obtain ⟨⟨p, l, e, Rm, s, m, args, below, meth, c⟩, Q, D, g, ad, base, n0⟩ := Γ
  obtain ⟨hx, hb, hml, hown, hts, hK, hST, hlk, hrt, hA, hs0, hQ, hrm, hnm, hn0⟩ := h
  intro H locs la hP hz hS hl
  exact va_gets hx hb hST.2.2.1 hS hown (hts _ hf) (fun _ q => q) d (k1 H locs la hP hz hS hl)
theorem cr_getsO (h : cr_Ok y cc nL ret rm K nS nE Γ) {j : Nat} (hf : Cond.fieldLink y.cls j "jdk/internal/util/Preconditions" "SIOOBE_FORMATTER" "Ljava/util/function/BiFunction;" ∈ cr_GW) (d : decode cc pc = .ok (.getstatic j, 3)) (k2 : cr_V Γ (pc + 3) ls (.null :: st) I R n) (k1 : cr_V Γ (pc + 3) ls (.ref 1200 :: st) I R n) : cr_V Γ pc ls st I R n := by
  obtain ⟨⟨p, l, e, Rm, s, m, args, below, meth, c⟩, Q, D, g, ad, base, n0⟩ := Γ
  obtain ⟨hx, hb, hml, hown, hts, hK, hST, hlk, hrt, hA, hs0, hQ, hrm, hnm, hn0⟩ := h
  intro H locs la hP hz hS hl
  rcases hST.1.2.2.2 with z | z
  · exact va_gets hx hb z hS hown (hts _ hf) (fun _ q => q) d (k2 H locs la hP hz hS hl)
  · exact va_gets hx hb z hS hown (hts _ hf) (fun _ q => q) d (k1 H locs la hP hz hS hl)
theorem cr_callVs (h : cr_Ok y cc nL ret rm K nS nE Γ) {i : Nat} (hi : i < 13) (hC : cr_C z cz nLz rz rmz n n' T) (hZ : cr_Z z cz nLz rz As.length) (hcs : z.cls = "java/lang/String") (hli : Cond.methodLink y.cls idx z ∈ cr_GW) (hins : Cond.instanceMethod z ∈ cr_GW) (hsel : Cond.selects z.cls z z ∈ cr_GW) (hrm0 : cr_rm rm rmz nLz nS n n' nE) (hst : stk = As.reverse ++ .ref (1003 + i) :: st) (h8 : (st.map fun v => v.category).sum ≤ 8) (d : decode cc pc = .ok (.invokevirtual idx, 3)) (hT : T (.ref (1003 + i) :: As) I R (fun v I' R' => cr_V Γ (pc + 3) ls (v.toList ++ st) I' R' n')) : cr_V Γ pc ls stk I R n := by
  obtain ⟨⟨p, l, e, Rm, s, m, args, below, meth, c⟩, Q, D, g, ad, base, n0⟩ := Γ
  obtain ⟨hx, hb, hml, hown, hts, hK, hST, hlk, hrt, hA, hs0, hQ, hrm, hnm, hn0⟩ := h
  intro H locs la hP hz hS hl
  subst hst
  subst hn0
  subst hrm
  have hmet := hC l D g ad base hA _ I R _ hT
  obtain ⟨hz1, hz2, hz3⟩ := hZ
  obtain ⟨hr1, ⟨hr2, hr3⟩, ⟨hr4, hr5, hr6⟩, hr7, hr8⟩ := hrm0
  have ms1 := cr_sl_mono hr4
  have ms2 := cr_sl_mono hr5
  have ms3 := cr_sl_mono hr6
  have hgood : GoodIn cr_GW (Cond.code z cz nLz rz :: cr_GW) := cr_good (fun _ q => q) hz1
  have h8' : ((st.map (cr_tr ad)).map fun v => v.category).sum ≤ 8 := by
    rw [List.map_map]
    have : ((fun v : Value => v.category) ∘ cr_tr ad) = fun v => v.category := funext fun v => cr_tr_cat ad v
    rw [this]
    exact h8
  refine cr_behind (n := n) (n' := n') ⟨hr4, hr5⟩ (st0 := (As.reverse ++ .ref (1003 + i) :: st).map (cr_tr ad)) (rest := st.map (cr_tr ad)) (va_runV (As := As.map (cr_tr ad)) (b := ad (1003 + i)) (C := z.cls) (Ts := cr_GW) (own := y.cls) (nL := nL) ⟨hx, hb, hml, hown, hts⟩ hmet ⟨callB_of As.length hts hgood rfl hr2 hr3 (hts _ hz2) (hts _ hli) hz3 hr1, hts _ hins, hts _ hsel⟩ ⟨cr_blind, by rw [hcs]; exact vk_recv (N := 13) (adK := fun i => ad (1003 + i)) (i := i) hST.2.2.2.1 hi hS, fun U hU hW => ⟨rfl, by rw [hU]; exact hP, fun q => by rw [hU]; exact hz q, va_K.moved hW.alike hK, hST.warm hS hU hW⟩⟩ rfl (by simp) (hl.1.trans hml) (by simp [List.map_reverse, cr_tr]) (lv_room h8') d ⟨by omega, by omega⟩) hS (fun v I' R' hv H1 locs1 hP1 hz1 hS1 => ?_)
  have := hv H1 locs1 la hP1 hz1 hS1 hl
  rw [List.map_append] at this
  have e : (v.map (cr_tr ad)).toList = v.toList.map (cr_tr ad) := by cases v <;> rfl
  rw [e]
  exact this
end CRT
def f_yJ0_coder_7d493 (τ : Nat → Nat) (w : Nat) (I : cr_I) : Int32 := (0 : Int32)
abbrev T_yJ0_coder_7d493 : cr_T := fun vs I R K => ∃ (τ : Nat → Nat) (w : Nat), R = cr_rf τ ∧ cr_tau τ ∧ vs = [.ref (1003 + w)] ∧ (w < 13) ∧ K (some (.int (f_yJ0_coder_7d493 τ w I))) I (cr_rf τ)
theorem C_yJ0_coder_7d493 : cr_C yJ0_coder_7d493 cJ0_coder_7d493 1 (some .byte) (cr_rm0 0 0) 247 247 T_yJ0_coder_7d493 := by
  refine cr_C.of (by decide +kernel) (fun vs I R K hT => ?_) (fun Γ K h vs I R hT => ?_)
  · obtain ⟨τ, w, rfl, hτ, rfl, hw, hK⟩ := hT
    exact Nat.le_of_ble_eq_true rfl
  · obtain ⟨τ, w, rfl, hτ, rfl, hw, hK⟩ := hT
    show cr_V Γ 0 [.ref (1003 + w)] [] I (cr_rf τ) 247
    refine cr_getsC h wf_J0_38 dJ0_coder_7d493_0 ?_
    refine cr_if_eq h (tgt := 13) (by decide) dJ0_coder_7d493_3 (fun c1 => absurd c1 (by decide)) (fun c1 => ?_)
    refine cr_aload_n h (j := 0) rfl rfl dJ0_coder_7d493_6 ?_
    refine cr_getSC h hw wf_J0_15 dJ0_coder_7d493_7 ?_
    refine cr_goto h (tgt := 14) (by decide) dJ0_coder_7d493_10 ?_
    refine cr_iret h rfl rfl rfl dJ0_coder_7d493_14 ?_
    rw [f_yJ0_coder_7d493] at hK
    exact hK
def f_yJ0_isLatin1_aae02 (τ : Nat → Nat) (w : Nat) (I : cr_I) : Int32 := (1 : Int32)
abbrev T_yJ0_isLatin1_aae02 : cr_T := fun vs I R K => ∃ (τ : Nat → Nat) (w : Nat), R = cr_rf τ ∧ cr_tau τ ∧ vs = [.ref (1003 + w)] ∧ (w < 13) ∧ K (some (.int (f_yJ0_isLatin1_aae02 τ w I))) I (cr_rf τ)
theorem C_yJ0_isLatin1_aae02 : cr_C yJ0_isLatin1_aae02 cJ0_isLatin1_aae02 1 (some .boolean) (cr_rm0 0 0) 247 247 T_yJ0_isLatin1_aae02 := by
  refine cr_C.of (by decide +kernel) (fun vs I R K hT => ?_) (fun Γ K h vs I R hT => ?_)
  · obtain ⟨τ, w, rfl, hτ, rfl, hw, hK⟩ := hT
    exact Nat.le_of_ble_eq_true rfl
  · obtain ⟨τ, w, rfl, hτ, rfl, hw, hK⟩ := hT
    show cr_V Γ 0 [.ref (1003 + w)] [] I (cr_rf τ) 247
    refine cr_getsC h wf_J0_38 dJ0_isLatin1_aae02_0 ?_
    refine cr_if_eq h (tgt := 17) (by decide) dJ0_isLatin1_aae02_3 (fun c1 => absurd c1 (by decide)) (fun c1 => ?_)
    refine cr_aload_n h (j := 0) rfl rfl dJ0_isLatin1_aae02_6 ?_
    refine cr_getSC h hw wf_J0_15 dJ0_isLatin1_aae02_7 ?_
    refine cr_if_ne h (tgt := 17) (by decide) dJ0_isLatin1_aae02_10 (fun c2 => absurd (by decide) c2) (fun c2 => ?_)
    refine cr_iconst h (v := (1 : Int32)) (by decide) dJ0_isLatin1_aae02_13 ?_
    refine cr_goto h (tgt := 18) (by decide) dJ0_isLatin1_aae02_14 ?_
    refine cr_iret h rfl (by decide) rfl dJ0_isLatin1_aae02_18 ?_
    rw [f_yJ0_isLatin1_aae02] at hK
    exact hK
theorem nb_yJ0_isLatin1_aae02 {τ : Nat → Nat} {w : Nat} {I : cr_I} : narrow .boolean (.int (f_yJ0_isLatin1_aae02 τ w I)) = .int (f_yJ0_isLatin1_aae02 τ w I) := by
  unfold f_yJ0_isLatin1_aae02
  first | (repeat' split) <;> first | rfl | (first | exact rfl)
def f_yJ0_length_8abf5 (τ : Nat → Nat) (w : Nat) (I : cr_I) : Int32 := ((nI (cr_txL.getD w 0)) >>> ((f_yJ0_coder_7d493 τ w I) &&& 31))
abbrev T_yJ0_length_8abf5 : cr_T := fun vs I R K => ∃ (τ : Nat → Nat) (w : Nat), R = cr_rf τ ∧ cr_tau τ ∧ vs = [.ref (1003 + w)] ∧ (w < 13) ∧ K (some (.int (f_yJ0_length_8abf5 τ w I))) I (cr_rf τ)
theorem C_yJ0_length_8abf5 : cr_C yJ0_length_8abf5 cJ0_length_8abf5 1 (some .int) (cr_rm0 1 20) 247 247 T_yJ0_length_8abf5 := by
  refine cr_C.of (by decide +kernel) (fun vs I R K hT => ?_) (fun Γ K h vs I R hT => ?_)
  · obtain ⟨τ, w, rfl, hτ, rfl, hw, hK⟩ := hT
    exact Nat.le_of_ble_eq_true rfl
  · obtain ⟨τ, w, rfl, hτ, rfl, hw, hK⟩ := hT
    show cr_V Γ 0 [.ref (1003 + w)] [] I (cr_rf τ) 247
    refine cr_aload_n h (j := 0) rfl rfl dJ0_length_8abf5_0 ?_
    refine cr_getSV h hw wf_J0_9 dJ0_length_8abf5_1 ?_
    refine cr_sbL h hw dJ0_length_8abf5_4 ?_
    refine cr_aload_n h (j := 0) rfl rfl dJ0_length_8abf5_5 ?_
    refine cr_callVs h (i := w) hw C_yJ0_coder_7d493 cZ_yJ0_coder_7d493 rfl wm_J0_335 wv_yJ0_coder_7d493 we_yJ0_coder_7d493 (cr_rmS (by decide) (by decide)) (As := []) rfl (Nat.le_of_ble_eq_true rfl) dJ0_length_8abf5_6 ⟨τ, w, rfl, hτ, rfl, hw, ?_⟩
    show cr_V Γ 9 [.ref (1003 + w)] [.int (f_yJ0_coder_7d493 τ w I), .int (nI (cr_txL.getD w 0))] I (cr_rf τ) 247
    refine cr_ishr h dJ0_length_8abf5_9 ?_
    refine cr_iret h rfl rfl rfl dJ0_length_8abf5_10 ?_
    rw [f_yJ0_length_8abf5] at hK
    exact hK
def t_yJ3_checkIndex_8e157 (τ : Nat → Nat) (x0 : Int32) (x1 : Int32) (I : cr_I) (Q : Int32 → cr_I → Prop) : Prop := (x0 < 0 → False) ∧ (¬ x0 < 0 → ((x0 < x1 → Q x0 I) ∧ (¬ x0 < x1 → False)))
abbrev T_yJ3_checkIndex_8e157 : cr_T := fun vs I R K => ∃ (τ : Nat → Nat) (x0 : Int32) (x1 : Int32) (Q : Int32 → cr_I → Prop), R = cr_rf τ ∧ cr_tau τ ∧ vs = [.int x0, .int x1, .ref 1200] ∧ t_yJ3_checkIndex_8e157 τ x0 x1 I Q ∧ ∀ r J, Q r J → K (some (.int r)) J (cr_rf τ)
theorem C_yJ3_checkIndex_8e157 : cr_C yJ3_checkIndex_8e157 cJ3_checkIndex_8e157 3 (some .int) (cr_rm0 0 0) 247 247 T_yJ3_checkIndex_8e157 := by
  refine cr_C.of (by decide +kernel) (fun vs I R K hT => ?_) (fun Γ K h vs I R hT => ?_)
  · obtain ⟨τ, x0, x1, Q, rfl, hτ, rfl, hyp, hK⟩ := hT
    exact Nat.le_of_ble_eq_true rfl
  · obtain ⟨τ, x0, x1, Q, rfl, hτ, rfl, hyp, hK⟩ := hT
    unfold t_yJ3_checkIndex_8e157 at hyp
    show cr_V Γ 0 [.int x0, .int x1, .ref 1200] [] I (cr_rf τ) 247
    refine cr_iload_n h (j := 0) rfl rfl dJ3_checkIndex_8e157_0 ?_
    refine cr_if_lt h (tgt := 9) (by decide) dJ3_checkIndex_8e157_1 (fun c1 => ?_) (fun c1 => ?_)
    · have hyp := hyp.1 c1
      refine cr_aload_n h (j := 2) rfl rfl dJ3_checkIndex_8e157_9 ?_
      refine cr_iload_n h (j := 0) rfl rfl dJ3_checkIndex_8e157_10 ?_
      refine cr_iload_n h (j := 1) rfl rfl dJ3_checkIndex_8e157_11 ?_
      exact hyp.elim
    · have hyp := hyp.2 c1
      refine cr_iload_n h (j := 0) rfl rfl dJ3_checkIndex_8e157_4 ?_
      refine cr_iload_n h (j := 1) rfl rfl dJ3_checkIndex_8e157_5 ?_
      refine cr_icmp_lt h (tgt := 16) (by decide) dJ3_checkIndex_8e157_6 (fun c2 => ?_) (fun c2 => ?_)
      · have hyp := hyp.1 c2
        refine cr_iload_n h (j := 0) rfl rfl dJ3_checkIndex_8e157_16 ?_
        refine cr_iret h rfl rfl rfl dJ3_checkIndex_8e157_17 ?_
        exact hK _ _ hyp
      · have hyp := hyp.2 c2
        refine cr_aload_n h (j := 2) rfl rfl dJ3_checkIndex_8e157_9 ?_
        refine cr_iload_n h (j := 0) rfl rfl dJ3_checkIndex_8e157_10 ?_
        refine cr_iload_n h (j := 1) rfl rfl dJ3_checkIndex_8e157_11 ?_
        exact hyp.elim
abbrev T_yJ3_checkIndex_8e157N : cr_T := fun vs I R K => ∃ (τ : Nat → Nat) (x0 : Int32) (x1 : Int32) (Q : Int32 → cr_I → Prop), R = cr_rf τ ∧ cr_tau τ ∧ vs = [.int x0, .int x1, .null] ∧ t_yJ3_checkIndex_8e157 τ x0 x1 I Q ∧ ∀ r J, Q r J → K (some (.int r)) J (cr_rf τ)
theorem C_yJ3_checkIndex_8e157N : cr_C yJ3_checkIndex_8e157 cJ3_checkIndex_8e157 3 (some .int) (cr_rm0 0 0) 247 247 T_yJ3_checkIndex_8e157N := by
  refine cr_C.of (by decide +kernel) (fun vs I R K hT => ?_) (fun Γ K h vs I R hT => ?_)
  · obtain ⟨τ, x0, x1, Q, rfl, hτ, rfl, hyp, hK⟩ := hT
    exact Nat.le_of_ble_eq_true rfl
  · obtain ⟨τ, x0, x1, Q, rfl, hτ, rfl, hyp, hK⟩ := hT
    unfold t_yJ3_checkIndex_8e157 at hyp
    show cr_V Γ 0 [.int x0, .int x1, .null] [] I (cr_rf τ) 247
    refine cr_iload_n h (j := 0) rfl rfl dJ3_checkIndex_8e157_0 ?_
    refine cr_if_lt h (tgt := 9) (by decide) dJ3_checkIndex_8e157_1 (fun c1 => ?_) (fun c1 => ?_)
    · have hyp := hyp.1 c1
      exact hyp.elim
    · have hyp := hyp.2 c1
      refine cr_iload_n h (j := 0) rfl rfl dJ3_checkIndex_8e157_4 ?_
      refine cr_iload_n h (j := 1) rfl rfl dJ3_checkIndex_8e157_5 ?_
      refine cr_icmp_lt h (tgt := 16) (by decide) dJ3_checkIndex_8e157_6 (fun c2 => ?_) (fun c2 => ?_)
      · have hyp := hyp.1 c2
        refine cr_iload_n h (j := 0) rfl rfl dJ3_checkIndex_8e157_16 ?_
        refine cr_iret h rfl rfl rfl dJ3_checkIndex_8e157_17 ?_
        exact hK _ _ hyp
      · have hyp := hyp.2 c2
        exact hyp.elim
def t_yJ0_checkIndex_df160 (τ : Nat → Nat) (x0 : Int32) (x1 : Int32) (I : cr_I) (Q : cr_I → Prop) : Prop := t_yJ3_checkIndex_8e157 τ x0 x1 I (fun (r1 : Int32) (J1 : cr_I) => Q J1)
abbrev T_yJ0_checkIndex_df160 : cr_T := fun vs I R K => ∃ (τ : Nat → Nat) (x0 : Int32) (x1 : Int32) (Q : cr_I → Prop), R = cr_rf τ ∧ cr_tau τ ∧ vs = [.int x0, .int x1] ∧ t_yJ0_checkIndex_df160 τ x0 x1 I Q ∧ ∀ J, Q J → K none J (cr_rf τ)
theorem C_yJ0_checkIndex_df160 : cr_C yJ0_checkIndex_df160 cJ0_checkIndex_df160 2 none (cr_rm0 1 22) 247 247 T_yJ0_checkIndex_df160 := by
  refine cr_C.of (by decide +kernel) (fun vs I R K hT => ?_) (fun Γ K h vs I R hT => ?_)
  · obtain ⟨τ, x0, x1, Q, rfl, hτ, rfl, hyp, hK⟩ := hT
    exact Nat.le_of_ble_eq_true rfl
  · obtain ⟨τ, x0, x1, Q, rfl, hτ, rfl, hyp, hK⟩ := hT
    unfold t_yJ0_checkIndex_df160 at hyp
    show cr_V Γ 0 [.int x0, .int x1] [] I (cr_rf τ) 247
    refine cr_iload_n h (j := 0) rfl rfl dJ0_checkIndex_df160_0 ?_
    refine cr_iload_n h (j := 1) rfl rfl dJ0_checkIndex_df160_1 ?_
    refine cr_getsO h wf_J0_1053 dJ0_checkIndex_df160_2 ?_ ?_
    · refine cr_callS h C_yJ3_checkIndex_8e157N cZ_yJ3_checkIndex_8e157 wm_J0_1059 ws_yJ3_checkIndex_8e157 (cr_rmS (by decide) (by decide)) (As := [.int x0, .int x1, .null]) rfl (Nat.le_of_ble_eq_true rfl) dJ0_checkIndex_df160_5 ⟨τ, x0, x1, _, rfl, hτ, rfl, hyp, fun r1 J1 hyp => ?_⟩
      show cr_V Γ 8 [.int x0, .int x1] [.int r1] J1 (cr_rf τ) 247
      refine cr_pop h rfl dJ0_checkIndex_df160_8 ?_
      refine cr_vret h rfl rfl dJ0_checkIndex_df160_9 ?_
      exact hK _ hyp
    · refine cr_callS h C_yJ3_checkIndex_8e157 cZ_yJ3_checkIndex_8e157 wm_J0_1059 ws_yJ3_checkIndex_8e157 (cr_rmS (by decide) (by decide)) (As := [.int x0, .int x1, .ref 1200]) rfl (Nat.le_of_ble_eq_true rfl) dJ0_checkIndex_df160_5 ⟨τ, x0, x1, _, rfl, hτ, rfl, hyp, fun r1 J1 hyp => ?_⟩
      show cr_V Γ 8 [.int x0, .int x1] [.int r1] J1 (cr_rf τ) 247
      refine cr_pop h rfl dJ0_checkIndex_df160_8 ?_
      refine cr_vret h rfl rfl dJ0_checkIndex_df160_9 ?_
      exact hK _ hyp
def t_yJ1_charAt_3b067 (τ : Nat → Nat) (w : Nat) (x1 : Int32) (I : cr_I) (Q : Int32 → cr_I → Prop) : Prop := t_yJ0_checkIndex_df160 τ x1 (nI (cr_txL.getD w 0)) I (fun (J1 : cr_I) => (0 ≤ x1.toInt ∧ x1.toInt < ((cr_txL.getD w 0 : Nat) : Int)) ∧ Q (((((cr_txB.getD w []).getD x1.toNatClampNeg 0) &&& (255 : Int32)).toUInt32 % 65536).toInt32) J1)
abbrev T_yJ1_charAt_3b067 : cr_T := fun vs I R K => ∃ (τ : Nat → Nat) (w : Nat) (x1 : Int32) (Q : Int32 → cr_I → Prop), R = cr_rf τ ∧ cr_tau τ ∧ vs = [.ref (1100 + w), .int x1] ∧ (w < 13) ∧ t_yJ1_charAt_3b067 τ w x1 I Q ∧ ∀ r J, Q r J → K (some (.int r)) J (cr_rf τ)
theorem C_yJ1_charAt_3b067 : cr_C yJ1_charAt_3b067 cJ1_charAt_3b067 2 (some .char) (cr_rm0 2 43) 247 247 T_yJ1_charAt_3b067 := by
  refine cr_C.of (by decide +kernel) (fun vs I R K hT => ?_) (fun Γ K h vs I R hT => ?_)
  · obtain ⟨τ, w, x1, Q, rfl, hτ, rfl, hw, hyp, hK⟩ := hT
    exact Nat.le_of_ble_eq_true rfl
  · obtain ⟨τ, w, x1, Q, rfl, hτ, rfl, hw, hyp, hK⟩ := hT
    unfold t_yJ1_charAt_3b067 at hyp
    show cr_V Γ 0 [.ref (1100 + w), .int x1] [] I (cr_rf τ) 247
    refine cr_iload_n h (j := 1) rfl rfl dJ1_charAt_3b067_0 ?_
    refine cr_aload_n h (j := 0) rfl rfl dJ1_charAt_3b067_1 ?_
    refine cr_sbL h hw dJ1_charAt_3b067_2 ?_
    refine cr_callS h C_yJ0_checkIndex_df160 cZ_yJ0_checkIndex_df160 wm_J1_9 ws_yJ0_checkIndex_df160 (cr_rmS (by decide) (by decide)) (As := [.int x1, .int (nI (cr_txL.getD w 0))]) rfl (Nat.le_of_ble_eq_true rfl) dJ1_charAt_3b067_3 ⟨τ, x1, (nI (cr_txL.getD w 0)), _, rfl, hτ, rfl, hyp, fun J1 hyp => ?_⟩
    show cr_V Γ 6 [.ref (1100 + w), .int x1] [] J1 (cr_rf τ) 247
    refine cr_aload_n h (j := 0) rfl rfl dJ1_charAt_3b067_6 ?_
    refine cr_iload_n h (j := 1) rfl rfl dJ1_charAt_3b067_7 ?_
    refine cr_sbA h hw hyp.1 dJ1_charAt_3b067_8 ?_
    have hyp := hyp.2
    refine cr_sipush h (v := (255 : Int32)) (by decide) dJ1_charAt_3b067_9 ?_
    refine cr_iand h dJ1_charAt_3b067_12 ?_
    refine cr_i2c h dJ1_charAt_3b067_13 ?_
    refine cr_iret h rfl (pk_nc _) rfl dJ1_charAt_3b067_14 ?_
    exact hK _ _ hyp
def t_yJ0_charAt_5068e (τ : Nat → Nat) (w : Nat) (x1 : Int32) (I : cr_I) (Q : Int32 → cr_I → Prop) : Prop := ((f_yJ0_isLatin1_aae02 τ w I) = 0 → False) ∧ (¬ (f_yJ0_isLatin1_aae02 τ w I) = 0 → (t_yJ1_charAt_3b067 τ w x1 I (fun (r1 : Int32) (J1 : cr_I) => narrow .char (.int r1) = .int r1 ∧ Q r1 J1)))
abbrev T_yJ0_charAt_5068e : cr_T := fun vs I R K => ∃ (τ : Nat → Nat) (w : Nat) (x1 : Int32) (Q : Int32 → cr_I → Prop), R = cr_rf τ ∧ cr_tau τ ∧ vs = [.ref (1003 + w), .int x1] ∧ (w < 13) ∧ t_yJ0_charAt_5068e τ w x1 I Q ∧ ∀ r J, Q r J → K (some (.int r)) J (cr_rf τ)
theorem C_yJ0_charAt_5068e : cr_C yJ0_charAt_5068e cJ0_charAt_5068e 2 (some .char) (cr_rm0 3 64) 247 247 T_yJ0_charAt_5068e := by
  refine cr_C.of (by decide +kernel) (fun vs I R K hT => ?_) (fun Γ K h vs I R hT => ?_)
  · obtain ⟨τ, w, x1, Q, rfl, hτ, rfl, hw, hyp, hK⟩ := hT
    exact Nat.le_of_ble_eq_true rfl
  · obtain ⟨τ, w, x1, Q, rfl, hτ, rfl, hw, hyp, hK⟩ := hT
    unfold t_yJ0_charAt_5068e at hyp
    show cr_V Γ 0 [.ref (1003 + w), .int x1] [] I (cr_rf τ) 247
    refine cr_aload_n h (j := 0) rfl rfl dJ0_charAt_5068e_0 ?_
    refine cr_callVs h (i := w) hw C_yJ0_isLatin1_aae02 cZ_yJ0_isLatin1_aae02 rfl wm_J0_492 wv_yJ0_isLatin1_aae02 we_yJ0_isLatin1_aae02 (cr_rmS (by decide) (by decide)) (As := []) rfl (Nat.le_of_ble_eq_true rfl) dJ0_charAt_5068e_1 ⟨τ, w, rfl, hτ, rfl, hw, ?_⟩
    show cr_V Γ 4 [.ref (1003 + w), .int x1] [.int (f_yJ0_isLatin1_aae02 τ w I)] I (cr_rf τ) 247
    refine cr_if_eq h (tgt := 16) (by decide) dJ0_charAt_5068e_4 (fun c1 => ?_) (fun c1 => ?_)
    · have hyp := hyp.1 c1
      refine cr_aload_n h (j := 0) rfl rfl dJ0_charAt_5068e_16 ?_
      refine cr_getSV h hw wf_J0_9 dJ0_charAt_5068e_17 ?_
      refine cr_iload_n h (j := 1) rfl rfl dJ0_charAt_5068e_20 ?_
      exact hyp.elim
    · have hyp := hyp.2 c1
      refine cr_aload_n h (j := 0) rfl rfl dJ0_charAt_5068e_7 ?_
      refine cr_getSV h hw wf_J0_9 dJ0_charAt_5068e_8 ?_
      refine cr_iload_n h (j := 1) rfl rfl dJ0_charAt_5068e_11 ?_
      refine cr_callS h C_yJ1_charAt_3b067 cZ_yJ1_charAt_3b067 wm_J0_495 ws_yJ1_charAt_3b067 (cr_rmS (by decide) (by decide)) (As := [.ref (1100 + w), .int x1]) rfl (Nat.le_of_ble_eq_true rfl) dJ0_charAt_5068e_12 ⟨τ, w, x1, _, rfl, hτ, rfl, hw, hyp, fun r1 J1 hyp => ?_⟩
      show cr_V Γ 15 [.ref (1003 + w), .int x1] [.int r1] J1 (cr_rf τ) 247
      refine cr_iret h rfl hyp.1 rfl dJ0_charAt_5068e_15 ?_
      have hyp := hyp.2
      exact hK _ _ hyp
def f_yX7_isDigit (τ : Nat → Nat) (x0 : Int32) (I : cr_I) : Int32 := if x0 < (48 : Int32) then (0 : Int32) else if (57 : Int32) < x0 then (0 : Int32) else (1 : Int32)
abbrev T_yX7_isDigit : cr_T := fun vs I R K => ∃ (τ : Nat → Nat) (x0 : Int32), R = cr_rf τ ∧ cr_tau τ ∧ vs = [.int x0] ∧ K (some (.int (f_yX7_isDigit τ x0 I))) I (cr_rf τ)
theorem C_yX7_isDigit : cr_C yX7_isDigit cX7_isDigit 1 (some .boolean) (cr_rm0 0 0) 247 247 T_yX7_isDigit := by
  refine cr_C.of (by decide +kernel) (fun vs I R K hT => ?_) (fun Γ K h vs I R hT => ?_)
  · obtain ⟨τ, x0, rfl, hτ, rfl, hK⟩ := hT
    exact Nat.le_of_ble_eq_true rfl
  · obtain ⟨τ, x0, rfl, hτ, rfl, hK⟩ := hT
    show cr_V Γ 0 [.int x0] [] I (cr_rf τ) 247
    refine cr_iload_n h (j := 0) rfl rfl dX7_isDigit_0 ?_
    refine cr_bipush h (v := (48 : Int32)) (by decide) dX7_isDigit_1 ?_
    refine cr_icmp_lt h (tgt := 16) (by decide) dX7_isDigit_3 (fun c1 => ?_) (fun c1 => ?_)
    · skip
      refine cr_iconst h (v := (0 : Int32)) (by decide) dX7_isDigit_16 ?_
      refine cr_iret h rfl (by decide) rfl dX7_isDigit_17 ?_
      rw [f_yX7_isDigit, if_pos c1] at hK
      exact hK
    · skip
      refine cr_iload_n h (j := 0) rfl rfl dX7_isDigit_6 ?_
      refine cr_bipush h (v := (57 : Int32)) (by decide) dX7_isDigit_7 ?_
      refine cr_icmp_gt h (tgt := 16) (by decide) dX7_isDigit_9 (fun c2 => ?_) (fun c2 => ?_)
      · skip
        refine cr_iconst h (v := (0 : Int32)) (by decide) dX7_isDigit_16 ?_
        refine cr_iret h rfl (by decide) rfl dX7_isDigit_17 ?_
        rw [f_yX7_isDigit, if_neg c1, if_pos c2] at hK
        exact hK
      · skip
        refine cr_iconst h (v := (1 : Int32)) (by decide) dX7_isDigit_12 ?_
        refine cr_goto h (tgt := 17) (by decide) dX7_isDigit_13 ?_
        refine cr_iret h rfl (by decide) rfl dX7_isDigit_17 ?_
        rw [f_yX7_isDigit, if_neg c1, if_neg c2] at hK
        exact hK
theorem nb_yX7_isDigit {τ : Nat → Nat} {x0 : Int32} {I : cr_I} : narrow .boolean (.int (f_yX7_isDigit τ x0 I)) = .int (f_yX7_isDigit τ x0 I) := by
  unfold f_yX7_isDigit
  first | (repeat' split) <;> first | rfl | (first | exact rfl)
def f_yX7_kindOf (τ : Nat → Nat) (x0 : Int32) (I : cr_I) : Int32 := if x0 < (97 : Int32) then if (f_yX7_isDigit τ x0 I) = 0 then (2 : Int32) else (1 : Int32) else if (122 : Int32) < x0 then if (f_yX7_isDigit τ x0 I) = 0 then (2 : Int32) else (1 : Int32) else (0 : Int32)
abbrev T_yX7_kindOf : cr_T := fun vs I R K => ∃ (τ : Nat → Nat) (x0 : Int32), R = cr_rf τ ∧ cr_tau τ ∧ vs = [.int x0] ∧ K (some (.int (f_yX7_kindOf τ x0 I))) I (cr_rf τ)
theorem C_yX7_kindOf : cr_C yX7_kindOf cX7_kindOf 1 (some .int) (cr_rm0 1 20) 247 247 T_yX7_kindOf := by
  refine cr_C.of (by decide +kernel) (fun vs I R K hT => ?_) (fun Γ K h vs I R hT => ?_)
  · obtain ⟨τ, x0, rfl, hτ, rfl, hK⟩ := hT
    exact Nat.le_of_ble_eq_true rfl
  · obtain ⟨τ, x0, rfl, hτ, rfl, hK⟩ := hT
    show cr_V Γ 0 [.int x0] [] I (cr_rf τ) 247
    refine cr_iload_n h (j := 0) rfl rfl dX7_kindOf_0 ?_
    refine cr_bipush h (v := (97 : Int32)) (by decide) dX7_kindOf_1 ?_
    refine cr_icmp_lt h (tgt := 14) (by decide) dX7_kindOf_3 (fun c1 => ?_) (fun c1 => ?_)
    · skip
      refine cr_iload_n h (j := 0) rfl rfl dX7_kindOf_14 ?_
      refine cr_callS h C_yX7_isDigit cZ_yX7_isDigit wm_X7_115 ws_yX7_isDigit (cr_rmS (by decide) (by decide)) (As := [.int x0]) rfl (Nat.le_of_ble_eq_true rfl) dX7_kindOf_15 ⟨τ, x0, rfl, hτ, rfl, ?_⟩
      show cr_V Γ 18 [.int x0] [.int (f_yX7_isDigit τ x0 I)] I (cr_rf τ) 247
      refine cr_if_eq h (tgt := 25) (by decide) dX7_kindOf_18 (fun c2 => ?_) (fun c2 => ?_)
      · skip
        refine cr_iconst h (v := (2 : Int32)) (by decide) dX7_kindOf_25 ?_
        refine cr_iret h rfl rfl rfl dX7_kindOf_26 ?_
        rw [f_yX7_kindOf, if_pos c1, if_pos c2] at hK
        exact hK
      · skip
        refine cr_iconst h (v := (1 : Int32)) (by decide) dX7_kindOf_21 ?_
        refine cr_goto h (tgt := 26) (by decide) dX7_kindOf_22 ?_
        refine cr_iret h rfl rfl rfl dX7_kindOf_26 ?_
        rw [f_yX7_kindOf, if_pos c1, if_neg c2] at hK
        exact hK
    · skip
      refine cr_iload_n h (j := 0) rfl rfl dX7_kindOf_6 ?_
      refine cr_bipush h (v := (122 : Int32)) (by decide) dX7_kindOf_7 ?_
      refine cr_icmp_gt h (tgt := 14) (by decide) dX7_kindOf_9 (fun c3 => ?_) (fun c3 => ?_)
      · skip
        refine cr_iload_n h (j := 0) rfl rfl dX7_kindOf_14 ?_
        refine cr_callS h C_yX7_isDigit cZ_yX7_isDigit wm_X7_115 ws_yX7_isDigit (cr_rmS (by decide) (by decide)) (As := [.int x0]) rfl (Nat.le_of_ble_eq_true rfl) dX7_kindOf_15 ⟨τ, x0, rfl, hτ, rfl, ?_⟩
        show cr_V Γ 18 [.int x0] [.int (f_yX7_isDigit τ x0 I)] I (cr_rf τ) 247
        refine cr_if_eq h (tgt := 25) (by decide) dX7_kindOf_18 (fun c4 => ?_) (fun c4 => ?_)
        · skip
          refine cr_iconst h (v := (2 : Int32)) (by decide) dX7_kindOf_25 ?_
          refine cr_iret h rfl rfl rfl dX7_kindOf_26 ?_
          rw [f_yX7_kindOf, if_neg c1, if_pos c3, if_pos c4] at hK
          exact hK
        · skip
          refine cr_iconst h (v := (1 : Int32)) (by decide) dX7_kindOf_21 ?_
          refine cr_goto h (tgt := 26) (by decide) dX7_kindOf_22 ?_
          refine cr_iret h rfl rfl rfl dX7_kindOf_26 ?_
          rw [f_yX7_kindOf, if_neg c1, if_pos c3, if_neg c4] at hK
          exact hK
      · skip
        refine cr_iconst h (v := (0 : Int32)) (by decide) dX7_kindOf_12 ?_
        refine cr_iret h rfl rfl rfl dX7_kindOf_13 ?_
        rw [f_yX7_kindOf, if_neg c1, if_neg c3] at hK
        exact hK
def f_yX7_isAtEnd (τ : Nat → Nat) (I : cr_I) : Int32 := if (I 1 3) < (I 1 1) then (0 : Int32) else (1 : Int32)
abbrev T_yX7_isAtEnd : cr_T := fun vs I R K => ∃ (τ : Nat → Nat), R = cr_rf τ ∧ cr_tau τ ∧ vs = [.ref 1] ∧ K (some (.int (f_yX7_isAtEnd τ I))) I (cr_rf τ)
theorem C_yX7_isAtEnd : cr_C yX7_isAtEnd cX7_isAtEnd 1 (some .boolean) (cr_rm0 0 0) 247 247 T_yX7_isAtEnd := by
  refine cr_C.of (by decide +kernel) (fun vs I R K hT => ?_) (fun Γ K h vs I R hT => ?_)
  · obtain ⟨τ, rfl, hτ, rfl, hK⟩ := hT
    exact Nat.le_of_ble_eq_true rfl
  · obtain ⟨τ, rfl, hτ, rfl, hK⟩ := hT
    show cr_V Γ 0 [.ref 1] [] I (cr_rf τ) 247
    refine cr_aload_n h (j := 0) rfl rfl dX7_isAtEnd_0 ?_
    refine cr_getI h (k := 3) cr_clsX7 (by decide) rfl rfl wf_X7_26 (by decide) rfl dX7_isAtEnd_1 ?_
    refine cr_aload_n h (j := 0) rfl rfl dX7_isAtEnd_4 ?_
    refine cr_getI h (k := 1) cr_clsX7 (by decide) rfl rfl wf_X7_15 (by decide) rfl dX7_isAtEnd_5 ?_
    refine cr_icmp_lt h (tgt := 15) (by decide) dX7_isAtEnd_8 (fun c1 => ?_) (fun c1 => ?_)
    · skip
      refine cr_iconst h (v := (0 : Int32)) (by decide) dX7_isAtEnd_15 ?_
      refine cr_iret h rfl (by decide) rfl dX7_isAtEnd_16 ?_
      rw [f_yX7_isAtEnd, if_pos c1] at hK
      exact hK
    · skip
      refine cr_iconst h (v := (1 : Int32)) (by decide) dX7_isAtEnd_11 ?_
      refine cr_goto h (tgt := 16) (by decide) dX7_isAtEnd_12 ?_
      refine cr_iret h rfl (by decide) rfl dX7_isAtEnd_16 ?_
      rw [f_yX7_isAtEnd, if_neg c1] at hK
      exact hK
theorem nb_yX7_isAtEnd {τ : Nat → Nat} {I : cr_I} : narrow .boolean (.int (f_yX7_isAtEnd τ I)) = .int (f_yX7_isAtEnd τ I) := by
  unfold f_yX7_isAtEnd
  first | (repeat' split) <;> first | rfl | (first | exact rfl)
def f_yX7_isSign (τ : Nat → Nat) (x1 : Int32) (I : cr_I) : Int32 := if (f_yX7_isAtEnd τ I) = 0 then if (I 2 (I 1 3).toNatClampNeg) = x1 then (1 : Int32) else (0 : Int32) else (0 : Int32)
def p_yX7_isSign (τ : Nat → Nat) (x1 : Int32) (I : cr_I) : Prop := (¬ (f_yX7_isAtEnd τ I) = 0 → True) ∧ ((f_yX7_isAtEnd τ I) = 0 → ((0 ≤ (I 1 3).toInt ∧ (I 1 3).toInt < 160) ∧ (¬ (I 2 (I 1 3).toNatClampNeg) = x1 → True) ∧ ((I 2 (I 1 3).toNatClampNeg) = x1 → True)))
abbrev T_yX7_isSign : cr_T := fun vs I R K => ∃ (τ : Nat → Nat) (x1 : Int32), R = cr_rf τ ∧ cr_tau τ ∧ vs = [.ref 1, .int x1] ∧ p_yX7_isSign τ x1 I ∧ K (some (.int (f_yX7_isSign τ x1 I))) I (cr_rf τ)
theorem C_yX7_isSign : cr_C yX7_isSign cX7_isSign 2 (some .boolean) (cr_rm0 1 20) 247 247 T_yX7_isSign := by
  refine cr_C.of (by decide +kernel) (fun vs I R K hT => ?_) (fun Γ K h vs I R hT => ?_)
  · obtain ⟨τ, x1, rfl, hτ, rfl, hyp, hK⟩ := hT
    exact Nat.le_of_ble_eq_true rfl
  · obtain ⟨τ, x1, rfl, hτ, rfl, hyp, hK⟩ := hT
    show cr_V Γ 0 [.ref 1, .int x1] [] I (cr_rf τ) 247
    refine cr_aload_n h (j := 0) rfl rfl dX7_isSign_0 ?_
    refine cr_callV h (c0 := 7) (T0 := TX7) C_yX7_isAtEnd cZ_yX7_isAtEnd wm_X7_39 wv_yX7_isAtEnd we_yX7_isAtEnd (by decide) rfl rfl (cr_rmS (by decide) (by decide)) (As := []) rfl (Nat.le_of_ble_eq_true rfl) dX7_isSign_1 ⟨τ, rfl, hτ, rfl, ?_⟩
    show cr_V Γ 4 [.ref 1, .int x1] [.int (f_yX7_isAtEnd τ I)] I (cr_rf τ) 247
    refine cr_if_ne h (tgt := 24) (by decide) dX7_isSign_4 (fun c1 => ?_) (fun c1 => ?_)
    · have hyp := hyp.1 c1
      refine cr_iconst h (v := (0 : Int32)) (by decide) dX7_isSign_24 ?_
      refine cr_iret h rfl (by decide) rfl dX7_isSign_25 ?_
      rw [f_yX7_isSign, if_neg c1] at hK
      exact hK
    · have hyp := hyp.2 c1
      refine cr_aload_n h (j := 0) rfl rfl dX7_isSign_7 ?_
      refine cr_getR h (k := 0) cr_clsX7 (by decide) rfl rfl wf_X7_9 (by decide) rfl rfl dX7_isSign_8 ?_
      refine cr_aload_n h (j := 0) rfl rfl dX7_isSign_11 ?_
      refine cr_getI h (k := 3) cr_clsX7 (by decide) rfl rfl wf_X7_26 (by decide) rfl dX7_isSign_12 ?_
      refine cs_ild h (by decide) rfl hyp.1 (q := (I 1 3).toNatClampNeg) rfl dX7_isSign_15 ?_
      have hyp := hyp.2
      refine cr_iload_n h (j := 1) rfl rfl dX7_isSign_16 ?_
      refine cr_icmp_ne h (tgt := 24) (by decide) dX7_isSign_17 (fun c2 => ?_) (fun c2 => ?_)
      · have hyp := hyp.1 c2
        refine cr_iconst h (v := (0 : Int32)) (by decide) dX7_isSign_24 ?_
        refine cr_iret h rfl (by decide) rfl dX7_isSign_25 ?_
        rw [f_yX7_isSign, if_pos c1, if_neg c2] at hK
        exact hK
      · have hyp := hyp.2 c2
        refine cr_iconst h (v := (1 : Int32)) (by decide) dX7_isSign_20 ?_
        refine cr_goto h (tgt := 25) (by decide) dX7_isSign_21 ?_
        refine cr_iret h rfl (by decide) rfl dX7_isSign_25 ?_
        rw [f_yX7_isSign, if_pos c1, if_pos c2] at hK
        exact hK
theorem nb_yX7_isSign {τ : Nat → Nat} {x1 : Int32} {I : cr_I} : narrow .boolean (.int (f_yX7_isSign τ x1 I)) = .int (f_yX7_isSign τ x1 I) := by
  unfold f_yX7_isSign
  first | (repeat' split) <;> first | rfl | (first | exact nb_yX7_isAtEnd)
def f_yX7_isNumber (τ : Nat → Nat) (I : cr_I) : Int32 := if (f_yX7_isAtEnd τ I) = 0 then if (f_yX7_isDigit τ (I 2 (I 1 3).toNatClampNeg) I) = 0 then (0 : Int32) else if (2 : Int32) < ((I 1 4) - (I 1 3)) then (0 : Int32) else (1 : Int32) else (0 : Int32)
def p_yX7_isNumber (τ : Nat → Nat) (I : cr_I) : Prop := (¬ (f_yX7_isAtEnd τ I) = 0 → True) ∧ ((f_yX7_isAtEnd τ I) = 0 → ((0 ≤ (I 1 3).toInt ∧ (I 1 3).toInt < 160) ∧ ((f_yX7_isDigit τ (I 2 (I 1 3).toNatClampNeg) I) = 0 → True) ∧ (¬ (f_yX7_isDigit τ (I 2 (I 1 3).toNatClampNeg) I) = 0 → (((2 : Int32) < ((I 1 4) - (I 1 3)) → True) ∧ (¬ (2 : Int32) < ((I 1 4) - (I 1 3)) → True)))))
abbrev T_yX7_isNumber : cr_T := fun vs I R K => ∃ (τ : Nat → Nat), R = cr_rf τ ∧ cr_tau τ ∧ vs = [.ref 1] ∧ p_yX7_isNumber τ I ∧ K (some (.int (f_yX7_isNumber τ I))) I (cr_rf τ)
theorem C_yX7_isNumber : cr_C yX7_isNumber cX7_isNumber 1 (some .boolean) (cr_rm0 1 20) 247 247 T_yX7_isNumber := by
  refine cr_C.of (by decide +kernel) (fun vs I R K hT => ?_) (fun Γ K h vs I R hT => ?_)
  · obtain ⟨τ, rfl, hτ, rfl, hyp, hK⟩ := hT
    exact Nat.le_of_ble_eq_true rfl
  · obtain ⟨τ, rfl, hτ, rfl, hyp, hK⟩ := hT
    show cr_V Γ 0 [.ref 1] [] I (cr_rf τ) 247
    refine cr_aload_n h (j := 0) rfl rfl dX7_isNumber_0 ?_
    refine cr_callV h (c0 := 7) (T0 := TX7) C_yX7_isAtEnd cZ_yX7_isAtEnd wm_X7_39 wv_yX7_isAtEnd we_yX7_isAtEnd (by decide) rfl rfl (cr_rmS (by decide) (by decide)) (As := []) rfl (Nat.le_of_ble_eq_true rfl) dX7_isNumber_1 ⟨τ, rfl, hτ, rfl, ?_⟩
    show cr_V Γ 4 [.ref 1] [.int (f_yX7_isAtEnd τ I)] I (cr_rf τ) 247
    refine cr_if_ne h (tgt := 39) (by decide) dX7_isNumber_4 (fun c1 => ?_) (fun c1 => ?_)
    · have hyp := hyp.1 c1
      refine cr_iconst h (v := (0 : Int32)) (by decide) dX7_isNumber_39 ?_
      refine cr_iret h rfl (by decide) rfl dX7_isNumber_40 ?_
      rw [f_yX7_isNumber, if_neg c1] at hK
      exact hK
    · have hyp := hyp.2 c1
      refine cr_aload_n h (j := 0) rfl rfl dX7_isNumber_7 ?_
      refine cr_getR h (k := 0) cr_clsX7 (by decide) rfl rfl wf_X7_9 (by decide) rfl rfl dX7_isNumber_8 ?_
      refine cr_aload_n h (j := 0) rfl rfl dX7_isNumber_11 ?_
      refine cr_getI h (k := 3) cr_clsX7 (by decide) rfl rfl wf_X7_26 (by decide) rfl dX7_isNumber_12 ?_
      refine cs_ild h (by decide) rfl hyp.1 (q := (I 1 3).toNatClampNeg) rfl dX7_isNumber_15 ?_
      have hyp := hyp.2
      refine cr_callS h C_yX7_isDigit cZ_yX7_isDigit wm_X7_115 ws_yX7_isDigit (cr_rmS (by decide) (by decide)) (As := [.int (I 2 (I 1 3).toNatClampNeg)]) rfl (Nat.le_of_ble_eq_true rfl) dX7_isNumber_16 ⟨τ, (I 2 (I 1 3).toNatClampNeg), rfl, hτ, rfl, ?_⟩
      show cr_V Γ 19 [.ref 1] [.int (f_yX7_isDigit τ (I 2 (I 1 3).toNatClampNeg) I)] I (cr_rf τ) 247
      refine cr_if_eq h (tgt := 39) (by decide) dX7_isNumber_19 (fun c2 => ?_) (fun c2 => ?_)
      · have hyp := hyp.1 c2
        refine cr_iconst h (v := (0 : Int32)) (by decide) dX7_isNumber_39 ?_
        refine cr_iret h rfl (by decide) rfl dX7_isNumber_40 ?_
        rw [f_yX7_isNumber, if_pos c1, if_pos c2] at hK
        exact hK
      · have hyp := hyp.2 c2
        refine cr_aload_n h (j := 0) rfl rfl dX7_isNumber_22 ?_
        refine cr_getI h (k := 4) cr_clsX7 (by decide) rfl rfl wf_X7_29 (by decide) rfl dX7_isNumber_23 ?_
        refine cr_aload_n h (j := 0) rfl rfl dX7_isNumber_26 ?_
        refine cr_getI h (k := 3) cr_clsX7 (by decide) rfl rfl wf_X7_26 (by decide) rfl dX7_isNumber_27 ?_
        refine cr_isub h dX7_isNumber_30 ?_
        refine cr_iconst h (v := (2 : Int32)) (by decide) dX7_isNumber_31 ?_
        refine cr_icmp_gt h (tgt := 39) (by decide) dX7_isNumber_32 (fun c3 => ?_) (fun c3 => ?_)
        · have hyp := hyp.1 c3
          refine cr_iconst h (v := (0 : Int32)) (by decide) dX7_isNumber_39 ?_
          refine cr_iret h rfl (by decide) rfl dX7_isNumber_40 ?_
          rw [f_yX7_isNumber, if_pos c1, if_neg c2, if_pos c3] at hK
          exact hK
        · have hyp := hyp.2 c3
          refine cr_iconst h (v := (1 : Int32)) (by decide) dX7_isNumber_35 ?_
          refine cr_goto h (tgt := 40) (by decide) dX7_isNumber_36 ?_
          refine cr_iret h rfl (by decide) rfl dX7_isNumber_40 ?_
          rw [f_yX7_isNumber, if_pos c1, if_neg c2, if_neg c3] at hK
          exact hK
theorem nb_yX7_isNumber {τ : Nat → Nat} {I : cr_I} : narrow .boolean (.int (f_yX7_isNumber τ I)) = .int (f_yX7_isNumber τ I) := by
  unfold f_yX7_isNumber
  first | (repeat' split) <;> first | rfl | (first | exact nb_yX7_isDigit | exact nb_yX7_isAtEnd)
