theorem cr_iteL {Γ : cr_G} {pc : Nat} {ls st : List Value} {I : cr_I} {R : cr_R} {n : Nat} {x y : Int64} (e : x = y) (k : cr_V Γ pc ls (.long x :: st) I R n) : cr_V Γ pc ls (.long y :: st) I R n := e ▸ k
theorem mo_ok {τ : Nat → Nat} {x1 : Int32} {I : cr_I} (hp : p_yX3_makeOfLorry τ x1 I) : f_yX3_makeOfLorry τ x1 I < 247 ∧ cr_kd (f_yX3_makeOfLorry τ x1 I) = (5, 5) ∧ (∀ τ' : Nat → Nat, cr_rf τ' (f_yX3_makeOfLorry τ x1 I) 4 = some (τ' (I 129 x1.toNatClampNeg).toNatClampNeg)) ∧ (I 129 x1.toNatClampNeg).toNatClampNeg < 4 := by
  have h := kr_28 hp.2.1
  exact ⟨h.1, h.2.1, h.2.2.2, cr_nn (N := 4) hp.2.1⟩
def t_yX8_make (τ : Nat → Nat) (x1 : Int32) (x2 : Int32) (x3 : Int32) (x4 : Int32) (x5 : Int32) (I : cr_I) (Q : Int32 → cr_I → Prop) : Prop := ((f_yX8_isNoMake τ x1 I) = 0 → ((¬ (f_yX8_isOutside τ x2 (1 : Int32) (40 : Int32) I) = 0 → Q (-3 : Int32) I) ∧ ((f_yX8_isOutside τ x2 (1 : Int32) (40 : Int32) I) = 0 → ((¬ (f_yX8_isOutside τ x3 (1 : Int32) (9 : Int32) I) = 0 → Q (-3 : Int32) I) ∧ ((f_yX8_isOutside τ x3 (1 : Int32) (9 : Int32) I) = 0 → ((¬ (f_yX8_isOutside τ x4 (1 : Int32) (5 : Int32) I) = 0 → Q (-3 : Int32) I) ∧ ((f_yX8_isOutside τ x4 (1 : Int32) (5 : Int32) I) = 0 → (((f_yX8_isOutside τ x5 (0 : Int32) (3 : Int32) I) = 0 → ((0 ≤ x1.toInt ∧ x1.toInt < 4) ∧ (∀ J1 : cr_I, J1 = cr_up I (29 + 25 * x1.toNatClampNeg) 0 x2 → (∀ J2 : cr_I, J2 = cr_up J1 (29 + 25 * x1.toNatClampNeg) 1 x3 → (∀ J3 : cr_I, J3 = cr_up J2 (29 + 25 * x1.toNatClampNeg) 2 x4 → (∀ J4 : cr_I, J4 = cr_up J3 (29 + 25 * x1.toNatClampNeg) 3 x5 → Q (1 : Int32) J4)))))) ∧ (¬ (f_yX8_isOutside τ x5 (0 : Int32) (3 : Int32) I) = 0 → Q (-3 : Int32) I))))))))) ∧ (¬ (f_yX8_isNoMake τ x1 I) = 0 → Q (-2 : Int32) I)
abbrev T_yX8_make : cr_T := fun vs I R K => ∃ (τ : Nat → Nat) (x1 : Int32) (x2 : Int32) (x3 : Int32) (x4 : Int32) (x5 : Int32) (Q : Int32 → cr_I → Prop), R = cr_rf τ ∧ cr_tau τ ∧ vs = [.ref 0, .int x1, .int x2, .int x3, .int x4, .int x5] ∧ t_yX8_make τ x1 x2 x3 x4 x5 I Q ∧ ∀ r J, Q r J → K (some (.int r)) J (cr_rf τ)
theorem C_yX8_make : cr_C yX8_make cX8_make 7 (some .int) (cr_rm0 2 42) 247 247 T_yX8_make := by
  refine cr_C.of (by decide +kernel) (fun vs I R K hT => ?_) (fun Γ K h vs I R hT => ?_)
  · obtain ⟨τ, x1, x2, x3, x4, x5, Q, rfl, hτ, rfl, hyp, hK⟩ := hT
    exact Nat.le_of_ble_eq_true rfl
  · obtain ⟨τ, x1, x2, x3, x4, x5, Q, rfl, hτ, rfl, hyp, hK⟩ := hT
    unfold t_yX8_make at hyp
    show cr_V Γ 0 [.ref 0, .int x1, .int x2, .int x3, .int x4, .int x5, .null] [] I (cr_rf τ) 247
    refine cr_iload_n h (j := 1) rfl rfl dX8_make_0 ?_
    refine cr_callS h C_yX8_isNoMake cZ_yX8_isNoMake wm_X8_51 ws_yX8_isNoMake (cr_rmS (by decide) (by decide)) (As := [.int x1]) rfl (Nat.le_of_ble_eq_true rfl) dX8_make_1 ⟨τ, x1, rfl, hτ, rfl, ?_⟩
    show cr_V Γ 4 [.ref 0, .int x1, .int x2, .int x3, .int x4, .int x5, .null] [.int (f_yX8_isNoMake τ x1 I)] I (cr_rf τ) 247
    refine cr_if_eq h (tgt := 10) (by decide) dX8_make_4 (fun c1 => ?_) (fun c1 => ?_)
    · have hyp := hyp.1 c1
      refine cr_iload_n h (j := 2) rfl rfl dX8_make_10 ?_
      refine cr_iconst h (v := (1 : Int32)) (by decide) dX8_make_11 ?_
      refine cr_bipush h (v := (40 : Int32)) (by decide) dX8_make_12 ?_
      refine cr_callS h C_yX8_isOutside cZ_yX8_isOutside wm_X8_55 ws_yX8_isOutside (cr_rmS (by decide) (by decide)) (As := [.int x2, .int (1 : Int32), .int (40 : Int32)]) rfl (Nat.le_of_ble_eq_true rfl) dX8_make_14 ⟨τ, x2, (1 : Int32), (40 : Int32), rfl, hτ, rfl, ?_⟩
      show cr_V Γ 17 [.ref 0, .int x1, .int x2, .int x3, .int x4, .int x5, .null] [.int (f_yX8_isOutside τ x2 (1 : Int32) (40 : Int32) I)] I (cr_rf τ) 247
      refine cr_if_ne h (tgt := 50) (by decide) dX8_make_17 (fun c2 => ?_) (fun c2 => ?_)
      · have hyp := hyp.1 c2
        refine cr_bipush h (v := (-3 : Int32)) (by decide) dX8_make_50 ?_
        refine cr_iret h rfl rfl rfl dX8_make_52 ?_
        exact hK _ _ hyp
      · have hyp := hyp.2 c2
        refine cr_iload_n h (j := 3) rfl rfl dX8_make_20 ?_
        refine cr_iconst h (v := (1 : Int32)) (by decide) dX8_make_21 ?_
        refine cr_bipush h (v := (9 : Int32)) (by decide) dX8_make_22 ?_
        refine cr_callS h C_yX8_isOutside cZ_yX8_isOutside wm_X8_55 ws_yX8_isOutside (cr_rmS (by decide) (by decide)) (As := [.int x3, .int (1 : Int32), .int (9 : Int32)]) rfl (Nat.le_of_ble_eq_true rfl) dX8_make_24 ⟨τ, x3, (1 : Int32), (9 : Int32), rfl, hτ, rfl, ?_⟩
        show cr_V Γ 27 [.ref 0, .int x1, .int x2, .int x3, .int x4, .int x5, .null] [.int (f_yX8_isOutside τ x3 (1 : Int32) (9 : Int32) I)] I (cr_rf τ) 247
        refine cr_if_ne h (tgt := 50) (by decide) dX8_make_27 (fun c3 => ?_) (fun c3 => ?_)
        · have hyp := hyp.1 c3
          refine cr_bipush h (v := (-3 : Int32)) (by decide) dX8_make_50 ?_
          refine cr_iret h rfl rfl rfl dX8_make_52 ?_
          exact hK _ _ hyp
        · have hyp := hyp.2 c3
          refine cr_iload h rfl dX8_make_30 ?_
          refine cr_iconst h (v := (1 : Int32)) (by decide) dX8_make_32 ?_
          refine cr_iconst h (v := (5 : Int32)) (by decide) dX8_make_33 ?_
          refine cr_callS h C_yX8_isOutside cZ_yX8_isOutside wm_X8_55 ws_yX8_isOutside (cr_rmS (by decide) (by decide)) (As := [.int x4, .int (1 : Int32), .int (5 : Int32)]) rfl (Nat.le_of_ble_eq_true rfl) dX8_make_34 ⟨τ, x4, (1 : Int32), (5 : Int32), rfl, hτ, rfl, ?_⟩
          show cr_V Γ 37 [.ref 0, .int x1, .int x2, .int x3, .int x4, .int x5, .null] [.int (f_yX8_isOutside τ x4 (1 : Int32) (5 : Int32) I)] I (cr_rf τ) 247
          refine cr_if_ne h (tgt := 50) (by decide) dX8_make_37 (fun c4 => ?_) (fun c4 => ?_)
          · have hyp := hyp.1 c4
            refine cr_bipush h (v := (-3 : Int32)) (by decide) dX8_make_50 ?_
            refine cr_iret h rfl rfl rfl dX8_make_52 ?_
            exact hK _ _ hyp
          · have hyp := hyp.2 c4
            refine cr_iload h rfl dX8_make_40 ?_
            refine cr_iconst h (v := (0 : Int32)) (by decide) dX8_make_42 ?_
            refine cr_iconst h (v := (3 : Int32)) (by decide) dX8_make_43 ?_
            refine cr_callS h C_yX8_isOutside cZ_yX8_isOutside wm_X8_55 ws_yX8_isOutside (cr_rmS (by decide) (by decide)) (As := [.int x5, .int (0 : Int32), .int (3 : Int32)]) rfl (Nat.le_of_ble_eq_true rfl) dX8_make_44 ⟨τ, x5, (0 : Int32), (3 : Int32), rfl, hτ, rfl, ?_⟩
            show cr_V Γ 47 [.ref 0, .int x1, .int x2, .int x3, .int x4, .int x5, .null] [.int (f_yX8_isOutside τ x5 (0 : Int32) (3 : Int32) I)] I (cr_rf τ) 247
            refine cr_if_eq h (tgt := 53) (by decide) dX8_make_47 (fun c5 => ?_) (fun c5 => ?_)
            · have hyp := hyp.1 c5
              refine cr_aload_n h (j := 0) rfl rfl dX8_make_53 ?_
              refine cr_getR h (k := 1) cr_clsX8 (by decide) rfl rfl wf_X8_19 (by decide) rfl rfl dX8_make_54 ?_
              refine cr_getR h (k := 0) cr_clsX3 (by decide) rfl rfl wf_X8_59 (by decide) rfl rfl dX8_make_57 ?_
              refine cr_iload_n h (j := 1) rfl rfl dX8_make_60 ?_
              have hb1 := hyp.1
              have hyp := hyp.2
              refine cr_aaldM h (by decide) rfl hb1 ((kr_28 hb1).2.2.1 τ) dX8_make_61 ?_
              refine cr_astore h (by decide) rfl dX8_make_62 ?_
              show cr_V Γ 64 [.ref 0, .int x1, .int x2, .int x3, .int x4, .int x5, .ref (29 + 25 * x1.toNatClampNeg)] [] I (cr_rf τ) 247
              refine cr_aload h rfl dX8_make_64 ?_
              refine cr_iload_n h (j := 2) rfl rfl dX8_make_66 ?_
              refine cs_put h (k := 0) cr_clsX2 (by decide) rfl rfl rfl rfl wf_X8_63 (kr_28 hb1).1 (by decide) (kr_28 hb1).2.1 dX8_make_67 (fun J1 eJ1 => ?_)
              have hyp := hyp J1 eJ1
              refine cr_aload h rfl dX8_make_70 ?_
              refine cr_iload_n h (j := 3) rfl rfl dX8_make_72 ?_
              refine cs_put h (k := 1) cr_clsX2 (by decide) rfl rfl rfl rfl wf_X8_69 (kr_28 hb1).1 (by decide) (kr_28 hb1).2.1 dX8_make_73 (fun J2 eJ2 => ?_)
              have hyp := hyp J2 eJ2
              refine cr_aload h rfl dX8_make_76 ?_
              refine cr_iload h rfl dX8_make_78 ?_
              refine cs_put h (k := 2) cr_clsX2 (by decide) rfl rfl rfl rfl wf_X8_72 (kr_28 hb1).1 (by decide) (kr_28 hb1).2.1 dX8_make_80 (fun J3 eJ3 => ?_)
              have hyp := hyp J3 eJ3
              refine cr_aload h rfl dX8_make_83 ?_
              refine cr_iload h rfl dX8_make_85 ?_
              refine cs_put h (k := 3) cr_clsX2 (by decide) rfl rfl rfl rfl wf_X8_75 (kr_28 hb1).1 (by decide) (kr_28 hb1).2.1 dX8_make_87 (fun J4 eJ4 => ?_)
              have hyp := hyp J4 eJ4
              refine cr_iconst h (v := (1 : Int32)) (by decide) dX8_make_90 ?_
              refine cr_iret h rfl rfl rfl dX8_make_91 ?_
              exact hK _ _ hyp
            · have hyp := hyp.2 c5
              refine cr_bipush h (v := (-3 : Int32)) (by decide) dX8_make_50 ?_
              refine cr_iret h rfl rfl rfl dX8_make_52 ?_
              exact hK _ _ hyp
    · have hyp := hyp.2 c1
      refine cr_bipush h (v := (-2 : Int32)) (by decide) dX8_make_7 ?_
      refine cr_iret h rfl rfl rfl dX8_make_9 ?_
      exact hK _ _ hyp
def t_yX8_erase (τ : Nat → Nat) (I : cr_I) (Q : Int32 → cr_I → Prop) : Prop := ∀ v1 : Int32, v1 = (I 1 1) → (∀ J1 : cr_I, J1 = cr_up I 1 1 (0 : Int32) → Q v1 J1)
abbrev T_yX8_erase : cr_T := fun vs I R K => ∃ (τ : Nat → Nat) (Q : Int32 → cr_I → Prop), R = cr_rf τ ∧ cr_tau τ ∧ vs = [.ref 0] ∧ t_yX8_erase τ I Q ∧ ∀ r J, Q r J → K (some (.int r)) J (cr_rf τ)
theorem C_yX8_erase : cr_C yX8_erase cX8_erase 2 (some .int) (cr_rm0 0 0) 247 247 T_yX8_erase := by
  refine cr_C.of (by decide +kernel) (fun vs I R K hT => ?_) (fun Γ K h vs I R hT => ?_)
  · obtain ⟨τ, Q, rfl, hτ, rfl, hyp, hK⟩ := hT
    exact Nat.le_of_ble_eq_true rfl
  · obtain ⟨τ, Q, rfl, hτ, rfl, hyp, hK⟩ := hT
    unfold t_yX8_erase at hyp
    show cr_V Γ 0 [.ref 0, .null] [] I (cr_rf τ) 247
    refine cr_aload_n h (j := 0) rfl rfl dX8_erase_0 ?_
    refine cr_getR h (k := 0) cr_clsX8 (by decide) rfl rfl wf_X8_10 (by decide) rfl rfl dX8_erase_1 ?_
    refine cr_getI h (k := 1) cr_clsX7 (by decide) rfl rfl wf_X8_78 (by decide) rfl dX8_erase_4 ?_
    refine cs_i_n h 1 rfl (by decide) rfl dX8_erase_7 (fun v1 ev1 => ?_)
    have hyp := hyp v1 ev1
    show cr_V Γ 8 [.ref 0, .int v1] [] I (cr_rf τ) 247
    refine cr_aload_n h (j := 0) rfl rfl dX8_erase_8 ?_
    refine cr_getR h (k := 0) cr_clsX8 (by decide) rfl rfl wf_X8_10 (by decide) rfl rfl dX8_erase_9 ?_
    refine cr_iconst h (v := (0 : Int32)) (by decide) dX8_erase_12 ?_
    refine cs_put h (k := 1) cr_clsX7 (by decide) rfl rfl rfl rfl wf_X8_78 (by decide) (by decide) rfl dX8_erase_13 (fun J1 eJ1 => ?_)
    have hyp := hyp J1 eJ1
    refine cr_iload_n h (j := 1) rfl rfl dX8_erase_16 ?_
    refine cr_iret h rfl rfl rfl dX8_erase_17 ?_
    exact hK _ _ hyp
def t_yX8_set (τ : Nat → Nat) (x1 : Int32) (x2 : Int32) (I : cr_I) (Q : Int32 → cr_I → Prop) : Prop := (¬ (f_yX8_isOutside τ x1 (0 : Int32) (4 : Int32) I) = 0 → Q (-3 : Int32) I) ∧ ((f_yX8_isOutside τ x1 (0 : Int32) (4 : Int32) I) = 0 → ((0 ≤ x1.toInt ∧ x1.toInt < 5) ∧ (0 ≤ x1.toInt ∧ x1.toInt < 5) ∧ ((f_yX8_isOutside τ x2 (cr_tab 1 x1.toNatClampNeg) (cr_tab 2 x1.toNatClampNeg) I) = 0 → ((0 ≤ x1.toInt ∧ x1.toInt < 5) ∧ (∀ v1 : Int32, v1 = (I 130 x1.toNatClampNeg) → ((0 ≤ x1.toInt ∧ x1.toInt < 5) ∧ (∀ J1 : cr_I, J1 = cr_up I 130 x1.toNatClampNeg x2 → Q v1 J1))))) ∧ (¬ (f_yX8_isOutside τ x2 (cr_tab 1 x1.toNatClampNeg) (cr_tab 2 x1.toNatClampNeg) I) = 0 → Q (-3 : Int32) I)))
abbrev T_yX8_set : cr_T := fun vs I R K => ∃ (τ : Nat → Nat) (x1 : Int32) (x2 : Int32) (Q : Int32 → cr_I → Prop), R = cr_rf τ ∧ cr_tau τ ∧ vs = [.ref 0, .int x1, .int x2] ∧ t_yX8_set τ x1 x2 I Q ∧ ∀ r J, Q r J → K (some (.int r)) J (cr_rf τ)
theorem C_yX8_set : cr_C yX8_set cX8_set 4 (some .int) (cr_rm0 1 22) 247 247 T_yX8_set := by
  refine cr_C.of (by decide +kernel) (fun vs I R K hT => ?_) (fun Γ K h vs I R hT => ?_)
  · obtain ⟨τ, x1, x2, Q, rfl, hτ, rfl, hyp, hK⟩ := hT
    exact Nat.le_of_ble_eq_true rfl
  · obtain ⟨τ, x1, x2, Q, rfl, hτ, rfl, hyp, hK⟩ := hT
    unfold t_yX8_set at hyp
    show cr_V Γ 0 [.ref 0, .int x1, .int x2, .null] [] I (cr_rf τ) 247
    refine cr_iload_n h (j := 1) rfl rfl dX8_set_0 ?_
    refine cr_iconst h (v := (0 : Int32)) (by decide) dX8_set_1 ?_
    refine cr_iconst h (v := (4 : Int32)) (by decide) dX8_set_2 ?_
    refine cr_callS h C_yX8_isOutside cZ_yX8_isOutside wm_X8_55 ws_yX8_isOutside (cr_rmS (by decide) (by decide)) (As := [.int x1, .int (0 : Int32), .int (4 : Int32)]) rfl (Nat.le_of_ble_eq_true rfl) dX8_set_3 ⟨τ, x1, (0 : Int32), (4 : Int32), rfl, hτ, rfl, ?_⟩
    show cr_V Γ 6 [.ref 0, .int x1, .int x2, .null] [.int (f_yX8_isOutside τ x1 (0 : Int32) (4 : Int32) I)] I (cr_rf τ) 247
    refine cr_if_ne h (tgt := 26) (by decide) dX8_set_6 (fun c1 => ?_) (fun c1 => ?_)
    · have hyp := hyp.1 c1
      refine cr_bipush h (v := (-3 : Int32)) (by decide) dX8_set_26 ?_
      refine cr_iret h rfl rfl rfl dX8_set_28 ?_
      exact hK _ _ hyp
    · have hyp := hyp.2 c1
      refine cr_iload_n h (j := 2) rfl rfl dX8_set_9 ?_
      refine cr_gets1001 h wf_X8_110 dX8_set_10 ?_
      refine cr_iload_n h (j := 1) rfl rfl dX8_set_13 ?_
      refine cs_sald h (Or.inr (Or.inl ⟨rfl, hyp.1⟩)) rfl dX8_set_14 ?_
      have hyp := hyp.2
      refine cr_gets1002 h wf_X8_113 dX8_set_15 ?_
      refine cr_iload_n h (j := 1) rfl rfl dX8_set_18 ?_
      refine cs_sald h (Or.inr (Or.inr ⟨rfl, hyp.1⟩)) rfl dX8_set_19 ?_
      have hyp := hyp.2
      refine cr_callS h C_yX8_isOutside cZ_yX8_isOutside wm_X8_55 ws_yX8_isOutside (cr_rmS (by decide) (by decide)) (As := [.int x2, .int (cr_tab 1 x1.toNatClampNeg), .int (cr_tab 2 x1.toNatClampNeg)]) rfl (Nat.le_of_ble_eq_true rfl) dX8_set_20 ⟨τ, x2, (cr_tab 1 x1.toNatClampNeg), (cr_tab 2 x1.toNatClampNeg), rfl, hτ, rfl, ?_⟩
      show cr_V Γ 23 [.ref 0, .int x1, .int x2, .null] [.int (f_yX8_isOutside τ x2 (cr_tab 1 x1.toNatClampNeg) (cr_tab 2 x1.toNatClampNeg) I)] I (cr_rf τ) 247
      refine cr_if_eq h (tgt := 29) (by decide) dX8_set_23 (fun c2 => ?_) (fun c2 => ?_)
      · have hyp := hyp.1 c2
        refine cr_aload_n h (j := 0) rfl rfl dX8_set_29 ?_
        refine cr_getR h (k := 1) cr_clsX8 (by decide) rfl rfl wf_X8_19 (by decide) rfl rfl dX8_set_30 ?_
        refine cr_getR h (k := 3) cr_clsX3 (by decide) rfl rfl wf_X8_116 (by decide) rfl rfl dX8_set_33 ?_
        refine cr_iload_n h (j := 1) rfl rfl dX8_set_36 ?_
        refine cs_ild h (by decide) rfl hyp.1 (q := x1.toNatClampNeg) rfl dX8_set_37 ?_
        have hyp := hyp.2
        refine cs_i_n h 3 rfl (by decide) rfl dX8_set_38 (fun v1 ev1 => ?_)
        have hyp := hyp v1 ev1
        show cr_V Γ 39 [.ref 0, .int x1, .int x2, .int v1] [] I (cr_rf τ) 247
        refine cr_aload_n h (j := 0) rfl rfl dX8_set_39 ?_
        refine cr_getR h (k := 1) cr_clsX8 (by decide) rfl rfl wf_X8_19 (by decide) rfl rfl dX8_set_40 ?_
        refine cr_getR h (k := 3) cr_clsX3 (by decide) rfl rfl wf_X8_116 (by decide) rfl rfl dX8_set_43 ?_
        refine cr_iload_n h (j := 1) rfl rfl dX8_set_46 ?_
        refine cr_iload_n h (j := 2) rfl rfl dX8_set_47 ?_
        refine cs_ist h (by decide) (by decide) rfl hyp.1 (q := x1.toNatClampNeg) rfl dX8_set_48 (fun J1 eJ1 => ?_)
        have hyp := hyp.2 J1 eJ1
        refine cr_iload_n h (j := 3) rfl rfl dX8_set_49 ?_
        refine cr_iret h rfl rfl rfl dX8_set_50 ?_
        exact hK _ _ hyp
      · have hyp := hyp.2 c2
        refine cr_bipush h (v := (-3 : Int32)) (by decide) dX8_set_26 ?_
        refine cr_iret h rfl rfl rfl dX8_set_28 ?_
        exact hK _ _ hyp
def t_yX8_push (τ : Nat → Nat) (x1 : Int32) (x2 : Int32) (I : cr_I) (Q : Int32 → cr_I → Prop) : Prop := (¬ (f_yX8_isOutside τ x1 (0 : Int32) (31 : Int32) I) = 0 → Q (-3 : Int32) I) ∧ ((f_yX8_isOutside τ x1 (0 : Int32) (31 : Int32) I) = 0 → (((f_yX8_isOutside τ x2 (-9 : Int32) (5 : Int32) I) = 0 → (((I 27 5) < (8 : Int32) → ((0 ≤ (I 27 5).toInt ∧ (I 27 5).toInt < 8) ∧ (∀ J1 : cr_I, J1 = cr_up I 131 ((I 27 5).toNatClampNeg) x1 → ((0 ≤ (J1 27 5).toInt ∧ (J1 27 5).toInt < 8) ∧ (∀ J2 : cr_I, J2 = cr_up J1 132 ((J1 27 5).toNatClampNeg) x2 → (∀ J3 : cr_I, J3 = cr_up J2 27 5 ((J2 27 5) + (1 : Int32)) → Q (J3 27 5) J3)))))) ∧ (¬ (I 27 5) < (8 : Int32) → Q (-5 : Int32) I))) ∧ (¬ (f_yX8_isOutside τ x2 (-9 : Int32) (5 : Int32) I) = 0 → Q (-3 : Int32) I)))
abbrev T_yX8_push : cr_T := fun vs I R K => ∃ (τ : Nat → Nat) (x1 : Int32) (x2 : Int32) (Q : Int32 → cr_I → Prop), R = cr_rf τ ∧ cr_tau τ ∧ vs = [.ref 0, .int x1, .int x2] ∧ t_yX8_push τ x1 x2 I Q ∧ ∀ r J, Q r J → K (some (.int r)) J (cr_rf τ)
theorem C_yX8_push : cr_C yX8_push cX8_push 3 (some .int) (cr_rm0 1 22) 247 247 T_yX8_push := by
  refine cr_C.of (by decide +kernel) (fun vs I R K hT => ?_) (fun Γ K h vs I R hT => ?_)
  · obtain ⟨τ, x1, x2, Q, rfl, hτ, rfl, hyp, hK⟩ := hT
    exact Nat.le_of_ble_eq_true rfl
  · obtain ⟨τ, x1, x2, Q, rfl, hτ, rfl, hyp, hK⟩ := hT
    unfold t_yX8_push at hyp
    show cr_V Γ 0 [.ref 0, .int x1, .int x2] [] I (cr_rf τ) 247
    refine cr_iload_n h (j := 1) rfl rfl dX8_push_0 ?_
    refine cr_iconst h (v := (0 : Int32)) (by decide) dX8_push_1 ?_
    refine cr_bipush h (v := (31 : Int32)) (by decide) dX8_push_2 ?_
    refine cr_callS h C_yX8_isOutside cZ_yX8_isOutside wm_X8_55 ws_yX8_isOutside (cr_rmS (by decide) (by decide)) (As := [.int x1, .int (0 : Int32), .int (31 : Int32)]) rfl (Nat.le_of_ble_eq_true rfl) dX8_push_4 ⟨τ, x1, (0 : Int32), (31 : Int32), rfl, hτ, rfl, ?_⟩
    show cr_V Γ 7 [.ref 0, .int x1, .int x2] [.int (f_yX8_isOutside τ x1 (0 : Int32) (31 : Int32) I)] I (cr_rf τ) 247
    refine cr_if_ne h (tgt := 20) (by decide) dX8_push_7 (fun c1 => ?_) (fun c1 => ?_)
    · have hyp := hyp.1 c1
      refine cr_bipush h (v := (-3 : Int32)) (by decide) dX8_push_20 ?_
      refine cr_iret h rfl rfl rfl dX8_push_22 ?_
      exact hK _ _ hyp
    · have hyp := hyp.2 c1
      refine cr_iload_n h (j := 2) rfl rfl dX8_push_10 ?_
      refine cr_bipush h (v := (-9 : Int32)) (by decide) dX8_push_11 ?_
      refine cr_iconst h (v := (5 : Int32)) (by decide) dX8_push_13 ?_
      refine cr_callS h C_yX8_isOutside cZ_yX8_isOutside wm_X8_55 ws_yX8_isOutside (cr_rmS (by decide) (by decide)) (As := [.int x2, .int (-9 : Int32), .int (5 : Int32)]) rfl (Nat.le_of_ble_eq_true rfl) dX8_push_14 ⟨τ, x2, (-9 : Int32), (5 : Int32), rfl, hτ, rfl, ?_⟩
      show cr_V Γ 17 [.ref 0, .int x1, .int x2] [.int (f_yX8_isOutside τ x2 (-9 : Int32) (5 : Int32) I)] I (cr_rf τ) 247
      refine cr_if_eq h (tgt := 23) (by decide) dX8_push_17 (fun c2 => ?_) (fun c2 => ?_)
      · have hyp := hyp.1 c2
        refine cr_aload_n h (j := 0) rfl rfl dX8_push_23 ?_
        refine cr_getR h (k := 1) cr_clsX8 (by decide) rfl rfl wf_X8_19 (by decide) rfl rfl dX8_push_24 ?_
        refine cr_getI h (k := 5) cr_clsX3 (by decide) rfl rfl wf_X8_119 (by decide) rfl dX8_push_27 ?_
        refine cr_bipush h (v := (8 : Int32)) (by decide) dX8_push_30 ?_
        refine cr_icmp_lt h (tgt := 38) (by decide) dX8_push_32 (fun c3 => ?_) (fun c3 => ?_)
        · have hyp := hyp.1 c3
          refine cr_aload_n h (j := 0) rfl rfl dX8_push_38 ?_
          refine cr_getR h (k := 1) cr_clsX8 (by decide) rfl rfl wf_X8_19 (by decide) rfl rfl dX8_push_39 ?_
          refine cr_getR h (k := 6) cr_clsX3 (by decide) rfl rfl wf_X8_122 (by decide) rfl rfl dX8_push_42 ?_
          refine cr_aload_n h (j := 0) rfl rfl dX8_push_45 ?_
          refine cr_getR h (k := 1) cr_clsX8 (by decide) rfl rfl wf_X8_19 (by decide) rfl rfl dX8_push_46 ?_
          refine cr_getI h (k := 5) cr_clsX3 (by decide) rfl rfl wf_X8_119 (by decide) rfl dX8_push_49 ?_
          refine cr_iload_n h (j := 1) rfl rfl dX8_push_52 ?_
          refine cs_ist h (by decide) (by decide) rfl hyp.1 (q := (I 27 5).toNatClampNeg) rfl dX8_push_53 (fun J1 eJ1 => ?_)
          have hyp := hyp.2 J1 eJ1
          refine cr_aload_n h (j := 0) rfl rfl dX8_push_54 ?_
          refine cr_getR h (k := 1) cr_clsX8 (by decide) rfl rfl wf_X8_19 (by decide) rfl rfl dX8_push_55 ?_
          refine cr_getR h (k := 7) cr_clsX3 (by decide) rfl rfl wf_X8_125 (by decide) rfl rfl dX8_push_58 ?_
          refine cr_aload_n h (j := 0) rfl rfl dX8_push_61 ?_
          refine cr_getR h (k := 1) cr_clsX8 (by decide) rfl rfl wf_X8_19 (by decide) rfl rfl dX8_push_62 ?_
          refine cr_getI h (k := 5) cr_clsX3 (by decide) rfl rfl wf_X8_119 (by decide) rfl dX8_push_65 ?_
          refine cr_iload_n h (j := 2) rfl rfl dX8_push_68 ?_
          refine cs_ist h (by decide) (by decide) rfl hyp.1 (q := (J1 27 5).toNatClampNeg) rfl dX8_push_69 (fun J2 eJ2 => ?_)
          have hyp := hyp.2 J2 eJ2
          refine cr_aload_n h (j := 0) rfl rfl dX8_push_70 ?_
          refine cr_getR h (k := 1) cr_clsX8 (by decide) rfl rfl wf_X8_19 (by decide) rfl rfl dX8_push_71 ?_
          refine cr_dup h rfl dX8_push_74 ?_
          refine cr_getI h (k := 5) cr_clsX3 (by decide) rfl rfl wf_X8_119 (by decide) rfl dX8_push_75 ?_
          refine cr_iconst h (v := (1 : Int32)) (by decide) dX8_push_78 ?_
          refine cr_iadd h dX8_push_79 ?_
          refine cs_put h (k := 5) cr_clsX3 (by decide) rfl rfl rfl rfl wf_X8_119 (by decide) (by decide) rfl dX8_push_80 (fun J3 eJ3 => ?_)
          have hyp := hyp J3 eJ3
          refine cr_aload_n h (j := 0) rfl rfl dX8_push_83 ?_
          refine cr_getR h (k := 1) cr_clsX8 (by decide) rfl rfl wf_X8_19 (by decide) rfl rfl dX8_push_84 ?_
          refine cr_getI h (k := 5) cr_clsX3 (by decide) rfl rfl wf_X8_119 (by decide) rfl dX8_push_87 ?_
          refine cr_iret h rfl rfl rfl dX8_push_90 ?_
          exact hK _ _ hyp
        · have hyp := hyp.2 c3
          refine cr_bipush h (v := (-5 : Int32)) (by decide) dX8_push_35 ?_
          refine cr_iret h rfl rfl rfl dX8_push_37 ?_
          exact hK _ _ hyp
      · have hyp := hyp.2 c2
        refine cr_bipush h (v := (-3 : Int32)) (by decide) dX8_push_20 ?_
        refine cr_iret h rfl rfl rfl dX8_push_22 ?_
        exact hK _ _ hyp
def t_yX8_calm (τ : Nat → Nat) (I : cr_I) (Q : Int32 → cr_I → Prop) : Prop := ∀ v1 : Int32, v1 = (I 27 5) → (∀ J1 : cr_I, J1 = cr_up I 27 5 (0 : Int32) → Q v1 J1)
abbrev T_yX8_calm : cr_T := fun vs I R K => ∃ (τ : Nat → Nat) (Q : Int32 → cr_I → Prop), R = cr_rf τ ∧ cr_tau τ ∧ vs = [.ref 0] ∧ t_yX8_calm τ I Q ∧ ∀ r J, Q r J → K (some (.int r)) J (cr_rf τ)
theorem C_yX8_calm : cr_C yX8_calm cX8_calm 2 (some .int) (cr_rm0 0 0) 247 247 T_yX8_calm := by
  refine cr_C.of (by decide +kernel) (fun vs I R K hT => ?_) (fun Γ K h vs I R hT => ?_)
  · obtain ⟨τ, Q, rfl, hτ, rfl, hyp, hK⟩ := hT
    exact Nat.le_of_ble_eq_true rfl
  · obtain ⟨τ, Q, rfl, hτ, rfl, hyp, hK⟩ := hT
    unfold t_yX8_calm at hyp
    show cr_V Γ 0 [.ref 0, .null] [] I (cr_rf τ) 247
    refine cr_aload_n h (j := 0) rfl rfl dX8_calm_0 ?_
    refine cr_getR h (k := 1) cr_clsX8 (by decide) rfl rfl wf_X8_19 (by decide) rfl rfl dX8_calm_1 ?_
    refine cr_getI h (k := 5) cr_clsX3 (by decide) rfl rfl wf_X8_119 (by decide) rfl dX8_calm_4 ?_
    refine cs_i_n h 1 rfl (by decide) rfl dX8_calm_7 (fun v1 ev1 => ?_)
    have hyp := hyp v1 ev1
    show cr_V Γ 8 [.ref 0, .int v1] [] I (cr_rf τ) 247
    refine cr_aload_n h (j := 0) rfl rfl dX8_calm_8 ?_
    refine cr_getR h (k := 1) cr_clsX8 (by decide) rfl rfl wf_X8_19 (by decide) rfl rfl dX8_calm_9 ?_
    refine cr_iconst h (v := (0 : Int32)) (by decide) dX8_calm_12 ?_
    refine cs_put h (k := 5) cr_clsX3 (by decide) rfl rfl rfl rfl wf_X8_119 (by decide) (by decide) rfl dX8_calm_13 (fun J1 eJ1 => ?_)
    have hyp := hyp J1 eJ1
    refine cr_iload_n h (j := 1) rfl rfl dX8_calm_16 ?_
    refine cr_iret h rfl rfl rfl dX8_calm_17 ?_
    exact hK _ _ hyp
def t_yX8_lose (τ : Nat → Nat) (x1 : Int32) (I : cr_I) (Q : Int32 → cr_I → Prop) : Prop := ∀ J1 : cr_I, J1 = cr_up I 27 4 x1 → Q (1 : Int32) J1
abbrev T_yX8_lose : cr_T := fun vs I R K => ∃ (τ : Nat → Nat) (x1 : Int32) (Q : Int32 → cr_I → Prop), R = cr_rf τ ∧ cr_tau τ ∧ vs = [.ref 0, .int x1] ∧ t_yX8_lose τ x1 I Q ∧ ∀ r J, Q r J → K (some (.int r)) J (cr_rf τ)
theorem C_yX8_lose : cr_C yX8_lose cX8_lose 2 (some .int) (cr_rm0 0 0) 247 247 T_yX8_lose := by
  refine cr_C.of (by decide +kernel) (fun vs I R K hT => ?_) (fun Γ K h vs I R hT => ?_)
  · obtain ⟨τ, x1, Q, rfl, hτ, rfl, hyp, hK⟩ := hT
    exact Nat.le_of_ble_eq_true rfl
  · obtain ⟨τ, x1, Q, rfl, hτ, rfl, hyp, hK⟩ := hT
    unfold t_yX8_lose at hyp
    show cr_V Γ 0 [.ref 0, .int x1] [] I (cr_rf τ) 247
    refine cr_aload_n h (j := 0) rfl rfl dX8_lose_0 ?_
    refine cr_getR h (k := 1) cr_clsX8 (by decide) rfl rfl wf_X8_19 (by decide) rfl rfl dX8_lose_1 ?_
    refine cr_iload_n h (j := 1) rfl rfl dX8_lose_4 ?_
    refine cs_put h (k := 4) cr_clsX3 (by decide) rfl rfl rfl rfl wf_X8_128 (by decide) (by decide) rfl dX8_lose_5 (fun J1 eJ1 => ?_)
    have hyp := hyp J1 eJ1
    refine cr_iconst h (v := (1 : Int32)) (by decide) dX8_lose_8 ?_
    refine cr_iret h rfl rfl rfl dX8_lose_9 ?_
    exact hK _ _ hyp
def t_yX8_hill (τ : Nat → Nat) (x1 : Int32) (x2 : Int32) (x3 : Int32) (x4 : Int32) (I : cr_I) (Q : Int32 → cr_I → Prop) : Prop := (¬ (f_yX8_areNoPlaces τ x1 x2 I) = 0 → Q (-3 : Int32) I) ∧ ((f_yX8_areNoPlaces τ x1 x2 I) = 0 → ((¬ (f_yX8_isOutside τ x3 (0 : Int32) (40 : Int32) I) = 0 → Q (-3 : Int32) I) ∧ ((f_yX8_isOutside τ x3 (0 : Int32) (40 : Int32) I) = 0 → (((f_yX8_isOutside τ x4 (0 : Int32) (40 : Int32) I) = 0 → (((I 27 8) < (2 : Int32) → ((0 ≤ (I 27 8).toInt ∧ (I 27 8).toInt < 2) ∧ (∀ J1 : cr_I, J1 = cr_up I 133 ((I 27 8).toNatClampNeg) x1 → ((0 ≤ (J1 27 8).toInt ∧ (J1 27 8).toInt < 2) ∧ (∀ J2 : cr_I, J2 = cr_up J1 134 ((J1 27 8).toNatClampNeg) x2 → ((0 ≤ (J2 27 8).toInt ∧ (J2 27 8).toInt < 2) ∧ (∀ J3 : cr_I, J3 = cr_up J2 135 ((J2 27 8).toNatClampNeg) x3 → ((0 ≤ (J3 27 8).toInt ∧ (J3 27 8).toInt < 2) ∧ (∀ J4 : cr_I, J4 = cr_up J3 136 ((J3 27 8).toNatClampNeg) x4 → (∀ J5 : cr_I, J5 = cr_up J4 27 8 ((J4 27 8) + (1 : Int32)) → Q (J5 27 8) J5)))))))))) ∧ (¬ (I 27 8) < (2 : Int32) → Q (-5 : Int32) I))) ∧ (¬ (f_yX8_isOutside τ x4 (0 : Int32) (40 : Int32) I) = 0 → Q (-3 : Int32) I)))))
abbrev T_yX8_hill : cr_T := fun vs I R K => ∃ (τ : Nat → Nat) (x1 : Int32) (x2 : Int32) (x3 : Int32) (x4 : Int32) (Q : Int32 → cr_I → Prop), R = cr_rf τ ∧ cr_tau τ ∧ vs = [.ref 0, .int x1, .int x2, .int x3, .int x4] ∧ t_yX8_hill τ x1 x2 x3 x4 I Q ∧ ∀ r J, Q r J → K (some (.int r)) J (cr_rf τ)
theorem C_yX8_hill : cr_C yX8_hill cX8_hill 5 (some .int) (cr_rm0 2 43) 247 247 T_yX8_hill := by
  refine cr_C.of (by decide +kernel) (fun vs I R K hT => ?_) (fun Γ K h vs I R hT => ?_)
  · obtain ⟨τ, x1, x2, x3, x4, Q, rfl, hτ, rfl, hyp, hK⟩ := hT
    exact Nat.le_of_ble_eq_true rfl
  · obtain ⟨τ, x1, x2, x3, x4, Q, rfl, hτ, rfl, hyp, hK⟩ := hT
    unfold t_yX8_hill at hyp
    show cr_V Γ 0 [.ref 0, .int x1, .int x2, .int x3, .int x4] [] I (cr_rf τ) 247
    refine cr_iload_n h (j := 1) rfl rfl dX8_hill_0 ?_
    refine cr_iload_n h (j := 2) rfl rfl dX8_hill_1 ?_
    refine cr_callS h C_yX8_areNoPlaces cZ_yX8_areNoPlaces wm_X8_131 ws_yX8_areNoPlaces (cr_rmS (by decide) (by decide)) (As := [.int x1, .int x2]) rfl (Nat.le_of_ble_eq_true rfl) dX8_hill_2 ⟨τ, x1, x2, rfl, hτ, rfl, ?_⟩
    show cr_V Γ 5 [.ref 0, .int x1, .int x2, .int x3, .int x4] [.int (f_yX8_areNoPlaces τ x1 x2 I)] I (cr_rf τ) 247
    refine cr_if_ne h (tgt := 29) (by decide) dX8_hill_5 (fun c1 => ?_) (fun c1 => ?_)
    · have hyp := hyp.1 c1
      refine cr_bipush h (v := (-3 : Int32)) (by decide) dX8_hill_29 ?_
      refine cr_iret h rfl rfl rfl dX8_hill_31 ?_
      exact hK _ _ hyp
    · have hyp := hyp.2 c1
      refine cr_iload_n h (j := 3) rfl rfl dX8_hill_8 ?_
      refine cr_iconst h (v := (0 : Int32)) (by decide) dX8_hill_9 ?_
      refine cr_bipush h (v := (40 : Int32)) (by decide) dX8_hill_10 ?_
      refine cr_callS h C_yX8_isOutside cZ_yX8_isOutside wm_X8_55 ws_yX8_isOutside (cr_rmS (by decide) (by decide)) (As := [.int x3, .int (0 : Int32), .int (40 : Int32)]) rfl (Nat.le_of_ble_eq_true rfl) dX8_hill_12 ⟨τ, x3, (0 : Int32), (40 : Int32), rfl, hτ, rfl, ?_⟩
      show cr_V Γ 15 [.ref 0, .int x1, .int x2, .int x3, .int x4] [.int (f_yX8_isOutside τ x3 (0 : Int32) (40 : Int32) I)] I (cr_rf τ) 247
      refine cr_if_ne h (tgt := 29) (by decide) dX8_hill_15 (fun c2 => ?_) (fun c2 => ?_)
      · have hyp := hyp.1 c2
        refine cr_bipush h (v := (-3 : Int32)) (by decide) dX8_hill_29 ?_
        refine cr_iret h rfl rfl rfl dX8_hill_31 ?_
        exact hK _ _ hyp
      · have hyp := hyp.2 c2
        refine cr_iload h rfl dX8_hill_18 ?_
        refine cr_iconst h (v := (0 : Int32)) (by decide) dX8_hill_20 ?_
        refine cr_bipush h (v := (40 : Int32)) (by decide) dX8_hill_21 ?_
        refine cr_callS h C_yX8_isOutside cZ_yX8_isOutside wm_X8_55 ws_yX8_isOutside (cr_rmS (by decide) (by decide)) (As := [.int x4, .int (0 : Int32), .int (40 : Int32)]) rfl (Nat.le_of_ble_eq_true rfl) dX8_hill_23 ⟨τ, x4, (0 : Int32), (40 : Int32), rfl, hτ, rfl, ?_⟩
        show cr_V Γ 26 [.ref 0, .int x1, .int x2, .int x3, .int x4] [.int (f_yX8_isOutside τ x4 (0 : Int32) (40 : Int32) I)] I (cr_rf τ) 247
        refine cr_if_eq h (tgt := 32) (by decide) dX8_hill_26 (fun c3 => ?_) (fun c3 => ?_)
        · have hyp := hyp.1 c3
          refine cr_aload_n h (j := 0) rfl rfl dX8_hill_32 ?_
          refine cr_getR h (k := 1) cr_clsX8 (by decide) rfl rfl wf_X8_19 (by decide) rfl rfl dX8_hill_33 ?_
          refine cr_getI h (k := 8) cr_clsX3 (by decide) rfl rfl wf_X8_135 (by decide) rfl dX8_hill_36 ?_
          refine cr_iconst h (v := (2 : Int32)) (by decide) dX8_hill_39 ?_
          refine cr_icmp_lt h (tgt := 46) (by decide) dX8_hill_40 (fun c4 => ?_) (fun c4 => ?_)
          · have hyp := hyp.1 c4
            refine cr_aload_n h (j := 0) rfl rfl dX8_hill_46 ?_
            refine cr_getR h (k := 1) cr_clsX8 (by decide) rfl rfl wf_X8_19 (by decide) rfl rfl dX8_hill_47 ?_
            refine cr_getR h (k := 9) cr_clsX3 (by decide) rfl rfl wf_X8_138 (by decide) rfl rfl dX8_hill_50 ?_
            refine cr_aload_n h (j := 0) rfl rfl dX8_hill_53 ?_
            refine cr_getR h (k := 1) cr_clsX8 (by decide) rfl rfl wf_X8_19 (by decide) rfl rfl dX8_hill_54 ?_
            refine cr_getI h (k := 8) cr_clsX3 (by decide) rfl rfl wf_X8_135 (by decide) rfl dX8_hill_57 ?_
            refine cr_iload_n h (j := 1) rfl rfl dX8_hill_60 ?_
            refine cs_ist h (by decide) (by decide) rfl hyp.1 (q := (I 27 8).toNatClampNeg) rfl dX8_hill_61 (fun J1 eJ1 => ?_)
            have hyp := hyp.2 J1 eJ1
            refine cr_aload_n h (j := 0) rfl rfl dX8_hill_62 ?_
            refine cr_getR h (k := 1) cr_clsX8 (by decide) rfl rfl wf_X8_19 (by decide) rfl rfl dX8_hill_63 ?_
            refine cr_getR h (k := 10) cr_clsX3 (by decide) rfl rfl wf_X8_141 (by decide) rfl rfl dX8_hill_66 ?_
            refine cr_aload_n h (j := 0) rfl rfl dX8_hill_69 ?_
            refine cr_getR h (k := 1) cr_clsX8 (by decide) rfl rfl wf_X8_19 (by decide) rfl rfl dX8_hill_70 ?_
            refine cr_getI h (k := 8) cr_clsX3 (by decide) rfl rfl wf_X8_135 (by decide) rfl dX8_hill_73 ?_
            refine cr_iload_n h (j := 2) rfl rfl dX8_hill_76 ?_
            refine cs_ist h (by decide) (by decide) rfl hyp.1 (q := (J1 27 8).toNatClampNeg) rfl dX8_hill_77 (fun J2 eJ2 => ?_)
            have hyp := hyp.2 J2 eJ2
            refine cr_aload_n h (j := 0) rfl rfl dX8_hill_78 ?_
            refine cr_getR h (k := 1) cr_clsX8 (by decide) rfl rfl wf_X8_19 (by decide) rfl rfl dX8_hill_79 ?_
            refine cr_getR h (k := 11) cr_clsX3 (by decide) rfl rfl wf_X8_144 (by decide) rfl rfl dX8_hill_82 ?_
            refine cr_aload_n h (j := 0) rfl rfl dX8_hill_85 ?_
            refine cr_getR h (k := 1) cr_clsX8 (by decide) rfl rfl wf_X8_19 (by decide) rfl rfl dX8_hill_86 ?_
            refine cr_getI h (k := 8) cr_clsX3 (by decide) rfl rfl wf_X8_135 (by decide) rfl dX8_hill_89 ?_
            refine cr_iload_n h (j := 3) rfl rfl dX8_hill_92 ?_
            refine cs_ist h (by decide) (by decide) rfl hyp.1 (q := (J2 27 8).toNatClampNeg) rfl dX8_hill_93 (fun J3 eJ3 => ?_)
            have hyp := hyp.2 J3 eJ3
            refine cr_aload_n h (j := 0) rfl rfl dX8_hill_94 ?_
            refine cr_getR h (k := 1) cr_clsX8 (by decide) rfl rfl wf_X8_19 (by decide) rfl rfl dX8_hill_95 ?_
            refine cr_getR h (k := 12) cr_clsX3 (by decide) rfl rfl wf_X8_147 (by decide) rfl rfl dX8_hill_98 ?_
            refine cr_aload_n h (j := 0) rfl rfl dX8_hill_101 ?_
            refine cr_getR h (k := 1) cr_clsX8 (by decide) rfl rfl wf_X8_19 (by decide) rfl rfl dX8_hill_102 ?_
            refine cr_getI h (k := 8) cr_clsX3 (by decide) rfl rfl wf_X8_135 (by decide) rfl dX8_hill_105 ?_
            refine cr_iload h rfl dX8_hill_108 ?_
            refine cs_ist h (by decide) (by decide) rfl hyp.1 (q := (J3 27 8).toNatClampNeg) rfl dX8_hill_110 (fun J4 eJ4 => ?_)
            have hyp := hyp.2 J4 eJ4
            refine cr_aload_n h (j := 0) rfl rfl dX8_hill_111 ?_
            refine cr_getR h (k := 1) cr_clsX8 (by decide) rfl rfl wf_X8_19 (by decide) rfl rfl dX8_hill_112 ?_
            refine cr_dup h rfl dX8_hill_115 ?_
            refine cr_getI h (k := 8) cr_clsX3 (by decide) rfl rfl wf_X8_135 (by decide) rfl dX8_hill_116 ?_
            refine cr_iconst h (v := (1 : Int32)) (by decide) dX8_hill_119 ?_
            refine cr_iadd h dX8_hill_120 ?_
            refine cs_put h (k := 8) cr_clsX3 (by decide) rfl rfl rfl rfl wf_X8_135 (by decide) (by decide) rfl dX8_hill_121 (fun J5 eJ5 => ?_)
            have hyp := hyp J5 eJ5
            refine cr_aload_n h (j := 0) rfl rfl dX8_hill_124 ?_
            refine cr_getR h (k := 1) cr_clsX8 (by decide) rfl rfl wf_X8_19 (by decide) rfl rfl dX8_hill_125 ?_
            refine cr_getI h (k := 8) cr_clsX3 (by decide) rfl rfl wf_X8_135 (by decide) rfl dX8_hill_128 ?_
            refine cr_iret h rfl rfl rfl dX8_hill_131 ?_
            exact hK _ _ hyp
          · have hyp := hyp.2 c4
            refine cr_bipush h (v := (-5 : Int32)) (by decide) dX8_hill_43 ?_
            refine cr_iret h rfl rfl rfl dX8_hill_45 ?_
            exact hK _ _ hyp
        · have hyp := hyp.2 c3
          refine cr_bipush h (v := (-3 : Int32)) (by decide) dX8_hill_29 ?_
          refine cr_iret h rfl rfl rfl dX8_hill_31 ?_
          exact hK _ _ hyp
def t_yX8_stranger (τ : Nat → Nat) (x1 : Int32) (x2 : Int32) (x3 : Int32) (x4 : Int32) (I : cr_I) (Q : Int32 → cr_I → Prop) : Prop := ((f_yX8_isNoFollower τ x1 I) = 0 → ((¬ (f_yX8_isOutside τ x2 (0 : Int32) (31 : Int32) I) = 0 → Q (-3 : Int32) I) ∧ ((f_yX8_isOutside τ x2 (0 : Int32) (31 : Int32) I) = 0 → ((¬ (f_yX8_isOutside τ x3 x2 (31 : Int32) I) = 0 → Q (-3 : Int32) I) ∧ ((f_yX8_isOutside τ x3 x2 (31 : Int32) I) = 0 → (((f_yX8_isOutside τ x4 (0 : Int32) (40 : Int32) I) = 0 → (∀ J1 : cr_I, J1 = cr_up I 27 13 x1 → (∀ J2 : cr_I, J2 = cr_up J1 27 14 x2 → (∀ J3 : cr_I, J3 = cr_up J2 27 15 x3 → (∀ J4 : cr_I, J4 = cr_up J3 27 16 x4 → Q (1 : Int32) J4))))) ∧ (¬ (f_yX8_isOutside τ x4 (0 : Int32) (40 : Int32) I) = 0 → Q (-3 : Int32) I))))))) ∧ (¬ (f_yX8_isNoFollower τ x1 I) = 0 → Q (-2 : Int32) I)
abbrev T_yX8_stranger : cr_T := fun vs I R K => ∃ (τ : Nat → Nat) (x1 : Int32) (x2 : Int32) (x3 : Int32) (x4 : Int32) (Q : Int32 → cr_I → Prop), R = cr_rf τ ∧ cr_tau τ ∧ vs = [.ref 0, .int x1, .int x2, .int x3, .int x4] ∧ t_yX8_stranger τ x1 x2 x3 x4 I Q ∧ ∀ r J, Q r J → K (some (.int r)) J (cr_rf τ)
theorem C_yX8_stranger : cr_C yX8_stranger cX8_stranger 5 (some .int) (cr_rm0 2 43) 247 247 T_yX8_stranger := by
  refine cr_C.of (by decide +kernel) (fun vs I R K hT => ?_) (fun Γ K h vs I R hT => ?_)
  · obtain ⟨τ, x1, x2, x3, x4, Q, rfl, hτ, rfl, hyp, hK⟩ := hT
    exact Nat.le_of_ble_eq_true rfl
  · obtain ⟨τ, x1, x2, x3, x4, Q, rfl, hτ, rfl, hyp, hK⟩ := hT
    unfold t_yX8_stranger at hyp
    show cr_V Γ 0 [.ref 0, .int x1, .int x2, .int x3, .int x4] [] I (cr_rf τ) 247
    refine cr_aload_n h (j := 0) rfl rfl dX8_stranger_0 ?_
    refine cr_iload_n h (j := 1) rfl rfl dX8_stranger_1 ?_
    refine cr_callV h (c0 := 8) (T0 := TX8) C_yX8_isNoFollower cZ_yX8_isNoFollower wm_X8_150 wv_yX8_isNoFollower we_yX8_isNoFollower (by decide) rfl rfl (cr_rmS (by decide) (by decide)) (As := [.int x1]) rfl (Nat.le_of_ble_eq_true rfl) dX8_stranger_2 ⟨τ, x1, rfl, hτ, rfl, ?_⟩
    show cr_V Γ 5 [.ref 0, .int x1, .int x2, .int x3, .int x4] [.int (f_yX8_isNoFollower τ x1 I)] I (cr_rf τ) 247
    refine cr_if_eq h (tgt := 11) (by decide) dX8_stranger_5 (fun c1 => ?_) (fun c1 => ?_)
    · have hyp := hyp.1 c1
      refine cr_iload_n h (j := 2) rfl rfl dX8_stranger_11 ?_
      refine cr_iconst h (v := (0 : Int32)) (by decide) dX8_stranger_12 ?_
      refine cr_bipush h (v := (31 : Int32)) (by decide) dX8_stranger_13 ?_
      refine cr_callS h C_yX8_isOutside cZ_yX8_isOutside wm_X8_55 ws_yX8_isOutside (cr_rmS (by decide) (by decide)) (As := [.int x2, .int (0 : Int32), .int (31 : Int32)]) rfl (Nat.le_of_ble_eq_true rfl) dX8_stranger_15 ⟨τ, x2, (0 : Int32), (31 : Int32), rfl, hτ, rfl, ?_⟩
      show cr_V Γ 18 [.ref 0, .int x1, .int x2, .int x3, .int x4] [.int (f_yX8_isOutside τ x2 (0 : Int32) (31 : Int32) I)] I (cr_rf τ) 247
      refine cr_if_ne h (tgt := 42) (by decide) dX8_stranger_18 (fun c2 => ?_) (fun c2 => ?_)
      · have hyp := hyp.1 c2
        refine cr_bipush h (v := (-3 : Int32)) (by decide) dX8_stranger_42 ?_
        refine cr_iret h rfl rfl rfl dX8_stranger_44 ?_
        exact hK _ _ hyp
      · have hyp := hyp.2 c2
        refine cr_iload_n h (j := 3) rfl rfl dX8_stranger_21 ?_
        refine cr_iload_n h (j := 2) rfl rfl dX8_stranger_22 ?_
        refine cr_bipush h (v := (31 : Int32)) (by decide) dX8_stranger_23 ?_
        refine cr_callS h C_yX8_isOutside cZ_yX8_isOutside wm_X8_55 ws_yX8_isOutside (cr_rmS (by decide) (by decide)) (As := [.int x3, .int x2, .int (31 : Int32)]) rfl (Nat.le_of_ble_eq_true rfl) dX8_stranger_25 ⟨τ, x3, x2, (31 : Int32), rfl, hτ, rfl, ?_⟩
        show cr_V Γ 28 [.ref 0, .int x1, .int x2, .int x3, .int x4] [.int (f_yX8_isOutside τ x3 x2 (31 : Int32) I)] I (cr_rf τ) 247
        refine cr_if_ne h (tgt := 42) (by decide) dX8_stranger_28 (fun c3 => ?_) (fun c3 => ?_)
        · have hyp := hyp.1 c3
          refine cr_bipush h (v := (-3 : Int32)) (by decide) dX8_stranger_42 ?_
          refine cr_iret h rfl rfl rfl dX8_stranger_44 ?_
          exact hK _ _ hyp
        · have hyp := hyp.2 c3
          refine cr_iload h rfl dX8_stranger_31 ?_
          refine cr_iconst h (v := (0 : Int32)) (by decide) dX8_stranger_33 ?_
          refine cr_bipush h (v := (40 : Int32)) (by decide) dX8_stranger_34 ?_
          refine cr_callS h C_yX8_isOutside cZ_yX8_isOutside wm_X8_55 ws_yX8_isOutside (cr_rmS (by decide) (by decide)) (As := [.int x4, .int (0 : Int32), .int (40 : Int32)]) rfl (Nat.le_of_ble_eq_true rfl) dX8_stranger_36 ⟨τ, x4, (0 : Int32), (40 : Int32), rfl, hτ, rfl, ?_⟩
          show cr_V Γ 39 [.ref 0, .int x1, .int x2, .int x3, .int x4] [.int (f_yX8_isOutside τ x4 (0 : Int32) (40 : Int32) I)] I (cr_rf τ) 247
          refine cr_if_eq h (tgt := 45) (by decide) dX8_stranger_39 (fun c4 => ?_) (fun c4 => ?_)
          · have hyp := hyp.1 c4
            refine cr_aload_n h (j := 0) rfl rfl dX8_stranger_45 ?_
            refine cr_getR h (k := 1) cr_clsX8 (by decide) rfl rfl wf_X8_19 (by decide) rfl rfl dX8_stranger_46 ?_
            refine cr_iload_n h (j := 1) rfl rfl dX8_stranger_49 ?_
            refine cs_put h (k := 13) cr_clsX3 (by decide) rfl rfl rfl rfl wf_X8_153 (by decide) (by decide) rfl dX8_stranger_50 (fun J1 eJ1 => ?_)
            have hyp := hyp J1 eJ1
            refine cr_aload_n h (j := 0) rfl rfl dX8_stranger_53 ?_
            refine cr_getR h (k := 1) cr_clsX8 (by decide) rfl rfl wf_X8_19 (by decide) rfl rfl dX8_stranger_54 ?_
            refine cr_iload_n h (j := 2) rfl rfl dX8_stranger_57 ?_
            refine cs_put h (k := 14) cr_clsX3 (by decide) rfl rfl rfl rfl wf_X8_156 (by decide) (by decide) rfl dX8_stranger_58 (fun J2 eJ2 => ?_)
            have hyp := hyp J2 eJ2
            refine cr_aload_n h (j := 0) rfl rfl dX8_stranger_61 ?_
            refine cr_getR h (k := 1) cr_clsX8 (by decide) rfl rfl wf_X8_19 (by decide) rfl rfl dX8_stranger_62 ?_
            refine cr_iload_n h (j := 3) rfl rfl dX8_stranger_65 ?_
            refine cs_put h (k := 15) cr_clsX3 (by decide) rfl rfl rfl rfl wf_X8_159 (by decide) (by decide) rfl dX8_stranger_66 (fun J3 eJ3 => ?_)
            have hyp := hyp J3 eJ3
            refine cr_aload_n h (j := 0) rfl rfl dX8_stranger_69 ?_
            refine cr_getR h (k := 1) cr_clsX8 (by decide) rfl rfl wf_X8_19 (by decide) rfl rfl dX8_stranger_70 ?_
            refine cr_iload h rfl dX8_stranger_73 ?_
            refine cs_put h (k := 16) cr_clsX3 (by decide) rfl rfl rfl rfl wf_X8_162 (by decide) (by decide) rfl dX8_stranger_75 (fun J4 eJ4 => ?_)
            have hyp := hyp J4 eJ4
            refine cr_iconst h (v := (1 : Int32)) (by decide) dX8_stranger_78 ?_
            refine cr_iret h rfl rfl rfl dX8_stranger_79 ?_
            exact hK _ _ hyp
          · have hyp := hyp.2 c4
            refine cr_bipush h (v := (-3 : Int32)) (by decide) dX8_stranger_42 ?_
            refine cr_iret h rfl rfl rfl dX8_stranger_44 ?_
            exact hK _ _ hyp
    · have hyp := hyp.2 c1
      refine cr_bipush h (v := (-2 : Int32)) (by decide) dX8_stranger_8 ?_
      refine cr_iret h rfl rfl rfl dX8_stranger_10 ?_
      exact hK _ _ hyp
def t_yX8_journey (τ : Nat → Nat) (x1 : Int32) (x2 : Int32) (x3 : Int32) (x4 : Int32) (x5 : Int32) (I : cr_I) (Q : Int32 → cr_I → Prop) : Prop := (¬ (f_yX8_isOutside τ x1 (0 : Int32) (9 : Int32) I) = 0 → Q (-2 : Int32) I) ∧ ((f_yX8_isOutside τ x1 (0 : Int32) (9 : Int32) I) = 0 → ((¬ (f_yX8_isOutside τ x2 (x1 + (1 : Int32)) (9 : Int32) I) = 0 → Q (-2 : Int32) I) ∧ ((f_yX8_isOutside τ x2 (x1 + (1 : Int32)) (9 : Int32) I) = 0 → (((f_yX8_isNoMake τ x5 I) = 0 → ((¬ (f_yX8_isOutside τ x3 (0 : Int32) (23 : Int32) I) = 0 → Q (-3 : Int32) I) ∧ ((f_yX8_isOutside τ x3 (0 : Int32) (23 : Int32) I) = 0 → (((f_yX8_isOutside τ x4 x3 (f_yJ9_min_7cf53 τ (23 : Int32) (x3 + (5 : Int32)) I) I) = 0 → (((I 169 0) < (5 : Int32) → (∀ v1 : Int32, v1 = (I 169 0) → ((0 ≤ v1.toInt ∧ v1.toInt < 5) ∧ (∀ J1 : cr_I, J1 = cr_up I 170 v1.toNatClampNeg x1 → ((0 ≤ v1.toInt ∧ v1.toInt < 5) ∧ (∀ J2 : cr_I, J2 = cr_up J1 171 v1.toNatClampNeg x2 → ((0 ≤ v1.toInt ∧ v1.toInt < 5) ∧ (∀ J3 : cr_I, J3 = cr_up J2 172 v1.toNatClampNeg x3 → ((0 ≤ v1.toInt ∧ v1.toInt < 5) ∧ (∀ J4 : cr_I, J4 = cr_up J3 173 v1.toNatClampNeg x4 → ((0 ≤ v1.toInt ∧ v1.toInt < 5) ∧ (∀ J5 : cr_I, J5 = cr_up J4 174 v1.toNatClampNeg x5 → (∀ J6 : cr_I, J6 = cr_up J5 169 0 ((J5 169 0) + (1 : Int32)) → Q v1 J6))))))))))))) ∧ (¬ (I 169 0) < (5 : Int32) → Q (-5 : Int32) I))) ∧ (¬ (f_yX8_isOutside τ x4 x3 (f_yJ9_min_7cf53 τ (23 : Int32) (x3 + (5 : Int32)) I) I) = 0 → Q (-3 : Int32) I))))) ∧ (¬ (f_yX8_isNoMake τ x5 I) = 0 → Q (-2 : Int32) I)))))
abbrev T_yX8_journey : cr_T := fun vs I R K => ∃ (τ : Nat → Nat) (x1 : Int32) (x2 : Int32) (x3 : Int32) (x4 : Int32) (x5 : Int32) (Q : Int32 → cr_I → Prop), R = cr_rf τ ∧ cr_tau τ ∧ vs = [.ref 0, .int x1, .int x2, .int x3, .int x4, .int x5] ∧ t_yX8_journey τ x1 x2 x3 x4 x5 I Q ∧ ∀ r J, Q r J → K (some (.int r)) J (cr_rf τ)
theorem C_yX8_journey : cr_C yX8_journey cX8_journey 7 (some .int) (cr_rm0 2 42) 247 247 T_yX8_journey := by
  refine cr_C.of (by decide +kernel) (fun vs I R K hT => ?_) (fun Γ K h vs I R hT => ?_)
  · obtain ⟨τ, x1, x2, x3, x4, x5, Q, rfl, hτ, rfl, hyp, hK⟩ := hT
    exact Nat.le_of_ble_eq_true rfl
  · obtain ⟨τ, x1, x2, x3, x4, x5, Q, rfl, hτ, rfl, hyp, hK⟩ := hT
    unfold t_yX8_journey at hyp
    show cr_V Γ 0 [.ref 0, .int x1, .int x2, .int x3, .int x4, .int x5, .null] [] I (cr_rf τ) 247
    refine cr_iload_n h (j := 1) rfl rfl dX8_journey_0 ?_
    refine cr_iconst h (v := (0 : Int32)) (by decide) dX8_journey_1 ?_
    refine cr_bipush h (v := (9 : Int32)) (by decide) dX8_journey_2 ?_
    refine cr_callS h C_yX8_isOutside cZ_yX8_isOutside wm_X8_55 ws_yX8_isOutside (cr_rmS (by decide) (by decide)) (As := [.int x1, .int (0 : Int32), .int (9 : Int32)]) rfl (Nat.le_of_ble_eq_true rfl) dX8_journey_4 ⟨τ, x1, (0 : Int32), (9 : Int32), rfl, hτ, rfl, ?_⟩
    show cr_V Γ 7 [.ref 0, .int x1, .int x2, .int x3, .int x4, .int x5, .null] [.int (f_yX8_isOutside τ x1 (0 : Int32) (9 : Int32) I)] I (cr_rf τ) 247
    refine cr_if_ne h (tgt := 30) (by decide) dX8_journey_7 (fun c1 => ?_) (fun c1 => ?_)
    · have hyp := hyp.1 c1
      refine cr_bipush h (v := (-2 : Int32)) (by decide) dX8_journey_30 ?_
      refine cr_iret h rfl rfl rfl dX8_journey_32 ?_
      exact hK _ _ hyp
    · have hyp := hyp.2 c1
      refine cr_iload_n h (j := 2) rfl rfl dX8_journey_10 ?_
      refine cr_iload_n h (j := 1) rfl rfl dX8_journey_11 ?_
      refine cr_iconst h (v := (1 : Int32)) (by decide) dX8_journey_12 ?_
      refine cr_iadd h dX8_journey_13 ?_
      refine cr_bipush h (v := (9 : Int32)) (by decide) dX8_journey_14 ?_
      refine cr_callS h C_yX8_isOutside cZ_yX8_isOutside wm_X8_55 ws_yX8_isOutside (cr_rmS (by decide) (by decide)) (As := [.int x2, .int (x1 + (1 : Int32)), .int (9 : Int32)]) rfl (Nat.le_of_ble_eq_true rfl) dX8_journey_16 ⟨τ, x2, (x1 + (1 : Int32)), (9 : Int32), rfl, hτ, rfl, ?_⟩
      show cr_V Γ 19 [.ref 0, .int x1, .int x2, .int x3, .int x4, .int x5, .null] [.int (f_yX8_isOutside τ x2 (x1 + (1 : Int32)) (9 : Int32) I)] I (cr_rf τ) 247
      refine cr_if_ne h (tgt := 30) (by decide) dX8_journey_19 (fun c2 => ?_) (fun c2 => ?_)
      · have hyp := hyp.1 c2
        refine cr_bipush h (v := (-2 : Int32)) (by decide) dX8_journey_30 ?_
        refine cr_iret h rfl rfl rfl dX8_journey_32 ?_
        exact hK _ _ hyp
      · have hyp := hyp.2 c2
        refine cr_iload h rfl dX8_journey_22 ?_
        refine cr_callS h C_yX8_isNoMake cZ_yX8_isNoMake wm_X8_51 ws_yX8_isNoMake (cr_rmS (by decide) (by decide)) (As := [.int x5]) rfl (Nat.le_of_ble_eq_true rfl) dX8_journey_24 ⟨τ, x5, rfl, hτ, rfl, ?_⟩
        show cr_V Γ 27 [.ref 0, .int x1, .int x2, .int x3, .int x4, .int x5, .null] [.int (f_yX8_isNoMake τ x5 I)] I (cr_rf τ) 247
        refine cr_if_eq h (tgt := 33) (by decide) dX8_journey_27 (fun c3 => ?_) (fun c3 => ?_)
        · have hyp := hyp.1 c3
          refine cr_iload_n h (j := 3) rfl rfl dX8_journey_33 ?_
          refine cr_iconst h (v := (0 : Int32)) (by decide) dX8_journey_34 ?_
          refine cr_bipush h (v := (23 : Int32)) (by decide) dX8_journey_35 ?_
          refine cr_callS h C_yX8_isOutside cZ_yX8_isOutside wm_X8_55 ws_yX8_isOutside (cr_rmS (by decide) (by decide)) (As := [.int x3, .int (0 : Int32), .int (23 : Int32)]) rfl (Nat.le_of_ble_eq_true rfl) dX8_journey_37 ⟨τ, x3, (0 : Int32), (23 : Int32), rfl, hτ, rfl, ?_⟩
          show cr_V Γ 40 [.ref 0, .int x1, .int x2, .int x3, .int x4, .int x5, .null] [.int (f_yX8_isOutside τ x3 (0 : Int32) (23 : Int32) I)] I (cr_rf τ) 247
          refine cr_if_ne h (tgt := 60) (by decide) dX8_journey_40 (fun c4 => ?_) (fun c4 => ?_)
          · have hyp := hyp.1 c4
            refine cr_bipush h (v := (-3 : Int32)) (by decide) dX8_journey_60 ?_
            refine cr_iret h rfl rfl rfl dX8_journey_62 ?_
            exact hK _ _ hyp
          · have hyp := hyp.2 c4
            refine cr_iload h rfl dX8_journey_43 ?_
            refine cr_iload_n h (j := 3) rfl rfl dX8_journey_45 ?_
            refine cr_bipush h (v := (23 : Int32)) (by decide) dX8_journey_46 ?_
            refine cr_iload_n h (j := 3) rfl rfl dX8_journey_48 ?_
            refine cr_iconst h (v := (5 : Int32)) (by decide) dX8_journey_49 ?_
            refine cr_iadd h dX8_journey_50 ?_
            refine cr_callS h C_yJ9_min_7cf53 cZ_yJ9_min_7cf53 wm_X8_224 ws_yJ9_min_7cf53 (cr_rmS (by decide) (by decide)) (As := [.int (23 : Int32), .int (x3 + (5 : Int32))]) rfl (Nat.le_of_ble_eq_true rfl) dX8_journey_51 ⟨τ, (23 : Int32), (x3 + (5 : Int32)), rfl, hτ, rfl, ?_⟩
            show cr_V Γ 54 [.ref 0, .int x1, .int x2, .int x3, .int x4, .int x5, .null] [.int (f_yJ9_min_7cf53 τ (23 : Int32) (x3 + (5 : Int32)) I), .int x3, .int x4] I (cr_rf τ) 247
            refine cr_callS h C_yX8_isOutside cZ_yX8_isOutside wm_X8_55 ws_yX8_isOutside (cr_rmS (by decide) (by decide)) (As := [.int x4, .int x3, .int (f_yJ9_min_7cf53 τ (23 : Int32) (x3 + (5 : Int32)) I)]) rfl (Nat.le_of_ble_eq_true rfl) dX8_journey_54 ⟨τ, x4, x3, (f_yJ9_min_7cf53 τ (23 : Int32) (x3 + (5 : Int32)) I), rfl, hτ, rfl, ?_⟩
            show cr_V Γ 57 [.ref 0, .int x1, .int x2, .int x3, .int x4, .int x5, .null] [.int (f_yX8_isOutside τ x4 x3 (f_yJ9_min_7cf53 τ (23 : Int32) (x3 + (5 : Int32)) I) I)] I (cr_rf τ) 247
            refine cr_if_eq h (tgt := 63) (by decide) dX8_journey_57 (fun c5 => ?_) (fun c5 => ?_)
            · have hyp := hyp.1 c5
              refine cr_aload_n h (j := 0) rfl rfl dX8_journey_63 ?_
              refine cr_getR h (k := 3) cr_clsX8 (by decide) rfl rfl wf_X8_33 (by decide) rfl rfl dX8_journey_64 ?_
              refine cr_getI h (k := 0) cr_clsX1 (by decide) rfl rfl wf_X8_227 (by decide) rfl dX8_journey_67 ?_
              refine cr_iconst h (v := (5 : Int32)) (by decide) dX8_journey_70 ?_
              refine cr_icmp_lt h (tgt := 77) (by decide) dX8_journey_71 (fun c6 => ?_) (fun c6 => ?_)
              · have hyp := hyp.1 c6
                refine cr_aload_n h (j := 0) rfl rfl dX8_journey_77 ?_
                refine cr_getR h (k := 3) cr_clsX8 (by decide) rfl rfl wf_X8_33 (by decide) rfl rfl dX8_journey_78 ?_
                refine cr_getI h (k := 0) cr_clsX1 (by decide) rfl rfl wf_X8_227 (by decide) rfl dX8_journey_81 ?_
                refine cs_i h 6 (by decide) rfl dX8_journey_84 (fun v1 ev1 => ?_)
                have hyp := hyp v1 ev1
                show cr_V Γ 86 [.ref 0, .int x1, .int x2, .int x3, .int x4, .int x5, .int v1] [] I (cr_rf τ) 247
                refine cr_aload_n h (j := 0) rfl rfl dX8_journey_86 ?_
                refine cr_getR h (k := 3) cr_clsX8 (by decide) rfl rfl wf_X8_33 (by decide) rfl rfl dX8_journey_87 ?_
                refine cr_getR h (k := 1) cr_clsX1 (by decide) rfl rfl wf_X8_230 (by decide) rfl rfl dX8_journey_90 ?_
                refine cr_iload h rfl dX8_journey_93 ?_
                refine cr_iload_n h (j := 1) rfl rfl dX8_journey_95 ?_
                refine cs_ist h (by decide) (by decide) rfl hyp.1 (q := v1.toNatClampNeg) rfl dX8_journey_96 (fun J1 eJ1 => ?_)
                have hyp := hyp.2 J1 eJ1
                refine cr_aload_n h (j := 0) rfl rfl dX8_journey_97 ?_
                refine cr_getR h (k := 3) cr_clsX8 (by decide) rfl rfl wf_X8_33 (by decide) rfl rfl dX8_journey_98 ?_
                refine cr_getR h (k := 2) cr_clsX1 (by decide) rfl rfl wf_X8_233 (by decide) rfl rfl dX8_journey_101 ?_
                refine cr_iload h rfl dX8_journey_104 ?_
                refine cr_iload_n h (j := 2) rfl rfl dX8_journey_106 ?_
                refine cs_ist h (by decide) (by decide) rfl hyp.1 (q := v1.toNatClampNeg) rfl dX8_journey_107 (fun J2 eJ2 => ?_)
                have hyp := hyp.2 J2 eJ2
                refine cr_aload_n h (j := 0) rfl rfl dX8_journey_108 ?_
                refine cr_getR h (k := 3) cr_clsX8 (by decide) rfl rfl wf_X8_33 (by decide) rfl rfl dX8_journey_109 ?_
                refine cr_getR h (k := 3) cr_clsX1 (by decide) rfl rfl wf_X8_236 (by decide) rfl rfl dX8_journey_112 ?_
                refine cr_iload h rfl dX8_journey_115 ?_
                refine cr_iload_n h (j := 3) rfl rfl dX8_journey_117 ?_
                refine cs_ist h (by decide) (by decide) rfl hyp.1 (q := v1.toNatClampNeg) rfl dX8_journey_118 (fun J3 eJ3 => ?_)
                have hyp := hyp.2 J3 eJ3
                refine cr_aload_n h (j := 0) rfl rfl dX8_journey_119 ?_
                refine cr_getR h (k := 3) cr_clsX8 (by decide) rfl rfl wf_X8_33 (by decide) rfl rfl dX8_journey_120 ?_
                refine cr_getR h (k := 4) cr_clsX1 (by decide) rfl rfl wf_X8_239 (by decide) rfl rfl dX8_journey_123 ?_
                refine cr_iload h rfl dX8_journey_126 ?_
                refine cr_iload h rfl dX8_journey_128 ?_
                refine cs_ist h (by decide) (by decide) rfl hyp.1 (q := v1.toNatClampNeg) rfl dX8_journey_130 (fun J4 eJ4 => ?_)
                have hyp := hyp.2 J4 eJ4
                refine cr_aload_n h (j := 0) rfl rfl dX8_journey_131 ?_
                refine cr_getR h (k := 3) cr_clsX8 (by decide) rfl rfl wf_X8_33 (by decide) rfl rfl dX8_journey_132 ?_
                refine cr_getR h (k := 5) cr_clsX1 (by decide) rfl rfl wf_X8_242 (by decide) rfl rfl dX8_journey_135 ?_
                refine cr_iload h rfl dX8_journey_138 ?_
                refine cr_iload h rfl dX8_journey_140 ?_
                refine cs_ist h (by decide) (by decide) rfl hyp.1 (q := v1.toNatClampNeg) rfl dX8_journey_142 (fun J5 eJ5 => ?_)
                have hyp := hyp.2 J5 eJ5
                refine cr_aload_n h (j := 0) rfl rfl dX8_journey_143 ?_
                refine cr_getR h (k := 3) cr_clsX8 (by decide) rfl rfl wf_X8_33 (by decide) rfl rfl dX8_journey_144 ?_
                refine cr_dup h rfl dX8_journey_147 ?_
                refine cr_getI h (k := 0) cr_clsX1 (by decide) rfl rfl wf_X8_227 (by decide) rfl dX8_journey_148 ?_
                refine cr_iconst h (v := (1 : Int32)) (by decide) dX8_journey_151 ?_
                refine cr_iadd h dX8_journey_152 ?_
                refine cs_put h (k := 0) cr_clsX1 (by decide) rfl rfl rfl rfl wf_X8_227 (by decide) (by decide) rfl dX8_journey_153 (fun J6 eJ6 => ?_)
                have hyp := hyp J6 eJ6
                refine cr_iload h rfl dX8_journey_156 ?_
                refine cr_iret h rfl rfl rfl dX8_journey_158 ?_
                exact hK _ _ hyp
              · have hyp := hyp.2 c6
                refine cr_bipush h (v := (-5 : Int32)) (by decide) dX8_journey_74 ?_
                refine cr_iret h rfl rfl rfl dX8_journey_76 ?_
                exact hK _ _ hyp
            · have hyp := hyp.2 c5
              refine cr_bipush h (v := (-3 : Int32)) (by decide) dX8_journey_60 ?_
              refine cr_iret h rfl rfl rfl dX8_journey_62 ?_
              exact hK _ _ hyp
        · have hyp := hyp.2 c3
          refine cr_bipush h (v := (-2 : Int32)) (by decide) dX8_journey_30 ?_
          refine cr_iret h rfl rfl rfl dX8_journey_32 ?_
          exact hK _ _ hyp
def t_yX8_clear (τ : Nat → Nat) (I : cr_I) (Q : Int32 → cr_I → Prop) : Prop := ∀ v1 : Int32, v1 = (I 169 0) → (∀ J1 : cr_I, J1 = cr_up I 169 0 (0 : Int32) → Q v1 J1)
abbrev T_yX8_clear : cr_T := fun vs I R K => ∃ (τ : Nat → Nat) (Q : Int32 → cr_I → Prop), R = cr_rf τ ∧ cr_tau τ ∧ vs = [.ref 0] ∧ t_yX8_clear τ I Q ∧ ∀ r J, Q r J → K (some (.int r)) J (cr_rf τ)
theorem C_yX8_clear : cr_C yX8_clear cX8_clear 2 (some .int) (cr_rm0 0 0) 247 247 T_yX8_clear := by
  refine cr_C.of (by decide +kernel) (fun vs I R K hT => ?_) (fun Γ K h vs I R hT => ?_)
  · obtain ⟨τ, Q, rfl, hτ, rfl, hyp, hK⟩ := hT
    exact Nat.le_of_ble_eq_true rfl
  · obtain ⟨τ, Q, rfl, hτ, rfl, hyp, hK⟩ := hT
    unfold t_yX8_clear at hyp
    show cr_V Γ 0 [.ref 0, .null] [] I (cr_rf τ) 247
    refine cr_aload_n h (j := 0) rfl rfl dX8_clear_0 ?_
    refine cr_getR h (k := 3) cr_clsX8 (by decide) rfl rfl wf_X8_33 (by decide) rfl rfl dX8_clear_1 ?_
    refine cr_getI h (k := 0) cr_clsX1 (by decide) rfl rfl wf_X8_227 (by decide) rfl dX8_clear_4 ?_
    refine cs_i_n h 1 rfl (by decide) rfl dX8_clear_7 (fun v1 ev1 => ?_)
    have hyp := hyp v1 ev1
    show cr_V Γ 8 [.ref 0, .int v1] [] I (cr_rf τ) 247
    refine cr_aload_n h (j := 0) rfl rfl dX8_clear_8 ?_
    refine cr_getR h (k := 3) cr_clsX8 (by decide) rfl rfl wf_X8_33 (by decide) rfl rfl dX8_clear_9 ?_
    refine cr_iconst h (v := (0 : Int32)) (by decide) dX8_clear_12 ?_
    refine cs_put h (k := 0) cr_clsX1 (by decide) rfl rfl rfl rfl wf_X8_227 (by decide) (by decide) rfl dX8_clear_13 (fun J1 eJ1 => ?_)
    have hyp := hyp J1 eJ1
    refine cr_iload_n h (j := 1) rfl rfl dX8_clear_16 ?_
    refine cr_iret h rfl rfl rfl dX8_clear_17 ?_
    exact hK _ _ hyp
def t_yX8_spared (τ : Nat → Nat) (x1 : Int32) (x2 : Int32) (x3 : Int32) (I : cr_I) (Q : Int32 → cr_I → Prop) : Prop := (¬ (f_yX8_isNoPerson τ x1 I) = 0 → Q (-2 : Int32) I) ∧ ((f_yX8_isNoPerson τ x1 I) = 0 → ((¬ (f_yX8_isNoPerson τ x2 I) = 0 → Q (-2 : Int32) I) ∧ ((f_yX8_isNoPerson τ x2 I) = 0 → ((¬ x1 = x2 → (((f_yX8_isOutside τ x3 (0 : Int32) (99 : Int32) I) = 0 → ((0 ≤ x1.toInt ∧ x1.toInt < 6) ∧ (0 ≤ x2.toInt ∧ x2.toInt < 6) ∧ (∀ v1 : Int32, v1 = (I (179 + x1.toNatClampNeg) x2.toNatClampNeg) → ((0 ≤ x1.toInt ∧ x1.toInt < 6) ∧ (0 ≤ x2.toInt ∧ x2.toInt < 6) ∧ (∀ J1 : cr_I, J1 = cr_up I (179 + x1.toNatClampNeg) x2.toNatClampNeg x3 → Q v1 J1))))) ∧ (¬ (f_yX8_isOutside τ x3 (0 : Int32) (99 : Int32) I) = 0 → Q (-3 : Int32) I))) ∧ (x1 = x2 → Q (-2 : Int32) I)))))
abbrev T_yX8_spared : cr_T := fun vs I R K => ∃ (τ : Nat → Nat) (x1 : Int32) (x2 : Int32) (x3 : Int32) (Q : Int32 → cr_I → Prop), R = cr_rf τ ∧ cr_tau τ ∧ vs = [.ref 0, .int x1, .int x2, .int x3] ∧ t_yX8_spared τ x1 x2 x3 I Q ∧ ∀ r J, Q r J → K (some (.int r)) J (cr_rf τ)
theorem C_yX8_spared : cr_C yX8_spared cX8_spared 5 (some .int) (cr_rm0 2 42) 247 247 T_yX8_spared := by
  refine cr_C.of (by decide +kernel) (fun vs I R K hT => ?_) (fun Γ K h vs I R hT => ?_)
  · obtain ⟨τ, x1, x2, x3, Q, rfl, hτ, rfl, hyp, hK⟩ := hT
    exact Nat.le_of_ble_eq_true rfl
  · obtain ⟨τ, x1, x2, x3, Q, rfl, hτ, rfl, hyp, hK⟩ := hT
    unfold t_yX8_spared at hyp
    show cr_V Γ 0 [.ref 0, .int x1, .int x2, .int x3, .null] [] I (cr_rf τ) 247
    refine cr_iload_n h (j := 1) rfl rfl dX8_spared_0 ?_
    refine cr_callS h C_yX8_isNoPerson cZ_yX8_isNoPerson wm_X8_258 ws_yX8_isNoPerson (cr_rmS (by decide) (by decide)) (As := [.int x1]) rfl (Nat.le_of_ble_eq_true rfl) dX8_spared_1 ⟨τ, x1, rfl, hτ, rfl, ?_⟩
    show cr_V Γ 4 [.ref 0, .int x1, .int x2, .int x3, .null] [.int (f_yX8_isNoPerson τ x1 I)] I (cr_rf τ) 247
    refine cr_if_ne h (tgt := 19) (by decide) dX8_spared_4 (fun c1 => ?_) (fun c1 => ?_)
    · have hyp := hyp.1 c1
      refine cr_bipush h (v := (-2 : Int32)) (by decide) dX8_spared_19 ?_
      refine cr_iret h rfl rfl rfl dX8_spared_21 ?_
      exact hK _ _ hyp
    · have hyp := hyp.2 c1
      refine cr_iload_n h (j := 2) rfl rfl dX8_spared_7 ?_
      refine cr_callS h C_yX8_isNoPerson cZ_yX8_isNoPerson wm_X8_258 ws_yX8_isNoPerson (cr_rmS (by decide) (by decide)) (As := [.int x2]) rfl (Nat.le_of_ble_eq_true rfl) dX8_spared_8 ⟨τ, x2, rfl, hτ, rfl, ?_⟩
      show cr_V Γ 11 [.ref 0, .int x1, .int x2, .int x3, .null] [.int (f_yX8_isNoPerson τ x2 I)] I (cr_rf τ) 247
      refine cr_if_ne h (tgt := 19) (by decide) dX8_spared_11 (fun c2 => ?_) (fun c2 => ?_)
      · have hyp := hyp.1 c2
        refine cr_bipush h (v := (-2 : Int32)) (by decide) dX8_spared_19 ?_
        refine cr_iret h rfl rfl rfl dX8_spared_21 ?_
        exact hK _ _ hyp
      · have hyp := hyp.2 c2
        refine cr_iload_n h (j := 1) rfl rfl dX8_spared_14 ?_
        refine cr_iload_n h (j := 2) rfl rfl dX8_spared_15 ?_
        refine cr_icmp_ne h (tgt := 22) (by decide) dX8_spared_16 (fun c3 => ?_) (fun c3 => ?_)
        · have hyp := hyp.1 c3
          refine cr_iload_n h (j := 3) rfl rfl dX8_spared_22 ?_
          refine cr_iconst h (v := (0 : Int32)) (by decide) dX8_spared_23 ?_
          refine cr_bipush h (v := (99 : Int32)) (by decide) dX8_spared_24 ?_
          refine cr_callS h C_yX8_isOutside cZ_yX8_isOutside wm_X8_55 ws_yX8_isOutside (cr_rmS (by decide) (by decide)) (As := [.int x3, .int (0 : Int32), .int (99 : Int32)]) rfl (Nat.le_of_ble_eq_true rfl) dX8_spared_26 ⟨τ, x3, (0 : Int32), (99 : Int32), rfl, hτ, rfl, ?_⟩
          show cr_V Γ 29 [.ref 0, .int x1, .int x2, .int x3, .null] [.int (f_yX8_isOutside τ x3 (0 : Int32) (99 : Int32) I)] I (cr_rf τ) 247
          refine cr_if_eq h (tgt := 35) (by decide) dX8_spared_29 (fun c4 => ?_) (fun c4 => ?_)
          · have hyp := hyp.1 c4
            refine cr_aload_n h (j := 0) rfl rfl dX8_spared_35 ?_
            refine cr_getR h (k := 4) cr_clsX8 (by decide) rfl rfl wf_X8_40 (by decide) rfl rfl dX8_spared_36 ?_
            refine cr_getR h (k := 0) cr_clsX5 (by decide) rfl rfl wf_X8_261 (by decide) rfl rfl dX8_spared_39 ?_
            refine cr_iload_n h (j := 1) rfl rfl dX8_spared_42 ?_
            have hb1 := hyp.1
            have hyp := hyp.2
            refine cr_aald h (by decide) rfl hb1 ((kr_178 hb1).2.2 τ) dX8_spared_43 ?_
            refine cr_iload_n h (j := 2) rfl rfl dX8_spared_44 ?_
            refine cs_ild h (kr_178 hb1).1 (kr_178 hb1).2.1 hyp.1 (q := x2.toNatClampNeg) rfl dX8_spared_45 ?_
            have hyp := hyp.2
            refine cs_i h 4 (by decide) rfl dX8_spared_46 (fun v1 ev1 => ?_)
            have hyp := hyp v1 ev1
            show cr_V Γ 48 [.ref 0, .int x1, .int x2, .int x3, .int v1] [] I (cr_rf τ) 247
            refine cr_aload_n h (j := 0) rfl rfl dX8_spared_48 ?_
            refine cr_getR h (k := 4) cr_clsX8 (by decide) rfl rfl wf_X8_40 (by decide) rfl rfl dX8_spared_49 ?_
            refine cr_getR h (k := 0) cr_clsX5 (by decide) rfl rfl wf_X8_261 (by decide) rfl rfl dX8_spared_52 ?_
            refine cr_iload_n h (j := 1) rfl rfl dX8_spared_55 ?_
            have hb2 := hyp.1
            have hyp := hyp.2
            refine cr_aald h (by decide) rfl hb2 ((kr_178 hb2).2.2 τ) dX8_spared_56 ?_
            refine cr_iload_n h (j := 2) rfl rfl dX8_spared_57 ?_
            refine cr_iload_n h (j := 3) rfl rfl dX8_spared_58 ?_
            refine cs_ist h (kr_178 hb2).1 (by decide) (kr_178 hb2).2.1 hyp.1 (q := x2.toNatClampNeg) rfl dX8_spared_59 (fun J1 eJ1 => ?_)
            have hyp := hyp.2 J1 eJ1
            refine cr_iload h rfl dX8_spared_60 ?_
            refine cr_iret h rfl rfl rfl dX8_spared_62 ?_
            exact hK _ _ hyp
          · have hyp := hyp.2 c4
            refine cr_bipush h (v := (-3 : Int32)) (by decide) dX8_spared_32 ?_
            refine cr_iret h rfl rfl rfl dX8_spared_34 ?_
            exact hK _ _ hyp
        · have hyp := hyp.2 c3
          refine cr_bipush h (v := (-2 : Int32)) (by decide) dX8_spared_19 ?_
          refine cr_iret h rfl rfl rfl dX8_spared_21 ?_
          exact hK _ _ hyp
def t_yX8_clock (τ : Nat → Nat) (x1 : Int32) (x2 : Int32) (I : cr_I) (Q : Int32 → cr_I → Prop) : Prop := ((f_yX8_isNoClock τ x1 I) = 0 → (((f_yX8_isOutside τ x2 (0 : Int32) (60 : Int32) I) = 0 → ((0 ≤ x1.toInt ∧ x1.toInt < 7) ∧ (∀ v1 : Int32, v1 = (I 186 x1.toNatClampNeg) → ((0 ≤ x1.toInt ∧ x1.toInt < 7) ∧ (∀ J1 : cr_I, J1 = cr_up I 186 x1.toNatClampNeg x2 → Q v1 J1))))) ∧ (¬ (f_yX8_isOutside τ x2 (0 : Int32) (60 : Int32) I) = 0 → Q (-3 : Int32) I))) ∧ (¬ (f_yX8_isNoClock τ x1 I) = 0 → Q (-2 : Int32) I)
abbrev T_yX8_clock : cr_T := fun vs I R K => ∃ (τ : Nat → Nat) (x1 : Int32) (x2 : Int32) (Q : Int32 → cr_I → Prop), R = cr_rf τ ∧ cr_tau τ ∧ vs = [.ref 0, .int x1, .int x2] ∧ t_yX8_clock τ x1 x2 I Q ∧ ∀ r J, Q r J → K (some (.int r)) J (cr_rf τ)
theorem C_yX8_clock : cr_C yX8_clock cX8_clock 4 (some .int) (cr_rm0 2 42) 247 247 T_yX8_clock := by
  refine cr_C.of (by decide +kernel) (fun vs I R K hT => ?_) (fun Γ K h vs I R hT => ?_)
  · obtain ⟨τ, x1, x2, Q, rfl, hτ, rfl, hyp, hK⟩ := hT
    exact Nat.le_of_ble_eq_true rfl
  · obtain ⟨τ, x1, x2, Q, rfl, hτ, rfl, hyp, hK⟩ := hT
    unfold t_yX8_clock at hyp
    show cr_V Γ 0 [.ref 0, .int x1, .int x2, .null] [] I (cr_rf τ) 247
    refine cr_iload_n h (j := 1) rfl rfl dX8_clock_0 ?_
    refine cr_callS h C_yX8_isNoClock cZ_yX8_isNoClock wm_X8_276 ws_yX8_isNoClock (cr_rmS (by decide) (by decide)) (As := [.int x1]) rfl (Nat.le_of_ble_eq_true rfl) dX8_clock_1 ⟨τ, x1, rfl, hτ, rfl, ?_⟩
    show cr_V Γ 4 [.ref 0, .int x1, .int x2, .null] [.int (f_yX8_isNoClock τ x1 I)] I (cr_rf τ) 247
    refine cr_if_eq h (tgt := 10) (by decide) dX8_clock_4 (fun c1 => ?_) (fun c1 => ?_)
    · have hyp := hyp.1 c1
      refine cr_iload_n h (j := 2) rfl rfl dX8_clock_10 ?_
      refine cr_iconst h (v := (0 : Int32)) (by decide) dX8_clock_11 ?_
      refine cr_bipush h (v := (60 : Int32)) (by decide) dX8_clock_12 ?_
      refine cr_callS h C_yX8_isOutside cZ_yX8_isOutside wm_X8_55 ws_yX8_isOutside (cr_rmS (by decide) (by decide)) (As := [.int x2, .int (0 : Int32), .int (60 : Int32)]) rfl (Nat.le_of_ble_eq_true rfl) dX8_clock_14 ⟨τ, x2, (0 : Int32), (60 : Int32), rfl, hτ, rfl, ?_⟩
      show cr_V Γ 17 [.ref 0, .int x1, .int x2, .null] [.int (f_yX8_isOutside τ x2 (0 : Int32) (60 : Int32) I)] I (cr_rf τ) 247
      refine cr_if_eq h (tgt := 23) (by decide) dX8_clock_17 (fun c2 => ?_) (fun c2 => ?_)
      · have hyp := hyp.1 c2
        refine cr_aload_n h (j := 0) rfl rfl dX8_clock_23 ?_
        refine cr_getR h (k := 5) cr_clsX8 (by decide) rfl rfl wf_X8_47 (by decide) rfl rfl dX8_clock_24 ?_
        refine cr_getR h (k := 0) cr_clsX0 (by decide) rfl rfl wf_X8_279 (by decide) rfl rfl dX8_clock_27 ?_
        refine cr_iload_n h (j := 1) rfl rfl dX8_clock_30 ?_
        refine cs_ild h (by decide) rfl hyp.1 (q := x1.toNatClampNeg) rfl dX8_clock_31 ?_
        have hyp := hyp.2
        refine cs_i_n h 3 rfl (by decide) rfl dX8_clock_32 (fun v1 ev1 => ?_)
        have hyp := hyp v1 ev1
        show cr_V Γ 33 [.ref 0, .int x1, .int x2, .int v1] [] I (cr_rf τ) 247
        refine cr_aload_n h (j := 0) rfl rfl dX8_clock_33 ?_
        refine cr_getR h (k := 5) cr_clsX8 (by decide) rfl rfl wf_X8_47 (by decide) rfl rfl dX8_clock_34 ?_
        refine cr_getR h (k := 0) cr_clsX0 (by decide) rfl rfl wf_X8_279 (by decide) rfl rfl dX8_clock_37 ?_
        refine cr_iload_n h (j := 1) rfl rfl dX8_clock_40 ?_
        refine cr_iload_n h (j := 2) rfl rfl dX8_clock_41 ?_
        refine cs_ist h (by decide) (by decide) rfl hyp.1 (q := x1.toNatClampNeg) rfl dX8_clock_42 (fun J1 eJ1 => ?_)
        have hyp := hyp.2 J1 eJ1
        refine cr_iload_n h (j := 3) rfl rfl dX8_clock_43 ?_
        refine cr_iret h rfl rfl rfl dX8_clock_44 ?_
        exact hK _ _ hyp
      · have hyp := hyp.2 c2
        refine cr_bipush h (v := (-3 : Int32)) (by decide) dX8_clock_20 ?_
        refine cr_iret h rfl rfl rfl dX8_clock_22 ?_
        exact hK _ _ hyp
    · have hyp := hyp.2 c1
      refine cr_bipush h (v := (-2 : Int32)) (by decide) dX8_clock_7 ?_
      refine cr_iret h rfl rfl rfl dX8_clock_9 ?_
      exact hK _ _ hyp
def t_yX8_event (τ : Nat → Nat) (x1 : Int32) (x2 : Int32) (I : cr_I) (Q : Int32 → cr_I → Prop) : Prop := ((f_yX8_isNoClock τ x1 I) = 0 → (((f_yX8_isOutside τ x2 (0 : Int32) (999 : Int32) I) = 0 → (((I 185 1) < (12 : Int32) → (∀ v1 : Int32, v1 = (I 185 1) → ((0 ≤ v1.toInt ∧ v1.toInt < 12) ∧ (∀ J1 : cr_I, J1 = cr_up I 187 v1.toNatClampNeg x1 → ((0 ≤ v1.toInt ∧ v1.toInt < 12) ∧ (∀ J2 : cr_I, J2 = cr_up J1 188 v1.toNatClampNeg x2 → (∀ J3 : cr_I, J3 = cr_up J2 185 1 ((J2 185 1) + (1 : Int32)) → Q v1 J3))))))) ∧ (¬ (I 185 1) < (12 : Int32) → Q (-5 : Int32) I))) ∧ (¬ (f_yX8_isOutside τ x2 (0 : Int32) (999 : Int32) I) = 0 → Q (-3 : Int32) I))) ∧ (¬ (f_yX8_isNoClock τ x1 I) = 0 → Q (-2 : Int32) I)
abbrev T_yX8_event : cr_T := fun vs I R K => ∃ (τ : Nat → Nat) (x1 : Int32) (x2 : Int32) (Q : Int32 → cr_I → Prop), R = cr_rf τ ∧ cr_tau τ ∧ vs = [.ref 0, .int x1, .int x2] ∧ t_yX8_event τ x1 x2 I Q ∧ ∀ r J, Q r J → K (some (.int r)) J (cr_rf τ)
theorem C_yX8_event : cr_C yX8_event cX8_event 4 (some .int) (cr_rm0 2 42) 247 247 T_yX8_event := by
  refine cr_C.of (by decide +kernel) (fun vs I R K hT => ?_) (fun Γ K h vs I R hT => ?_)
  · obtain ⟨τ, x1, x2, Q, rfl, hτ, rfl, hyp, hK⟩ := hT
    exact Nat.le_of_ble_eq_true rfl
  · obtain ⟨τ, x1, x2, Q, rfl, hτ, rfl, hyp, hK⟩ := hT
    unfold t_yX8_event at hyp
    show cr_V Γ 0 [.ref 0, .int x1, .int x2, .null] [] I (cr_rf τ) 247
    refine cr_iload_n h (j := 1) rfl rfl dX8_event_0 ?_
    refine cr_callS h C_yX8_isNoClock cZ_yX8_isNoClock wm_X8_276 ws_yX8_isNoClock (cr_rmS (by decide) (by decide)) (As := [.int x1]) rfl (Nat.le_of_ble_eq_true rfl) dX8_event_1 ⟨τ, x1, rfl, hτ, rfl, ?_⟩
    show cr_V Γ 4 [.ref 0, .int x1, .int x2, .null] [.int (f_yX8_isNoClock τ x1 I)] I (cr_rf τ) 247
    refine cr_if_eq h (tgt := 10) (by decide) dX8_event_4 (fun c1 => ?_) (fun c1 => ?_)
    · have hyp := hyp.1 c1
      refine cr_iload_n h (j := 2) rfl rfl dX8_event_10 ?_
      refine cr_iconst h (v := (0 : Int32)) (by decide) dX8_event_11 ?_
      refine cr_sipush h (v := (999 : Int32)) (by decide) dX8_event_12 ?_
      refine cr_callS h C_yX8_isOutside cZ_yX8_isOutside wm_X8_55 ws_yX8_isOutside (cr_rmS (by decide) (by decide)) (As := [.int x2, .int (0 : Int32), .int (999 : Int32)]) rfl (Nat.le_of_ble_eq_true rfl) dX8_event_15 ⟨τ, x2, (0 : Int32), (999 : Int32), rfl, hτ, rfl, ?_⟩
      show cr_V Γ 18 [.ref 0, .int x1, .int x2, .null] [.int (f_yX8_isOutside τ x2 (0 : Int32) (999 : Int32) I)] I (cr_rf τ) 247
      refine cr_if_eq h (tgt := 24) (by decide) dX8_event_18 (fun c2 => ?_) (fun c2 => ?_)
      · have hyp := hyp.1 c2
        refine cr_aload_n h (j := 0) rfl rfl dX8_event_24 ?_
        refine cr_getR h (k := 5) cr_clsX8 (by decide) rfl rfl wf_X8_47 (by decide) rfl rfl dX8_event_25 ?_
        refine cr_getI h (k := 1) cr_clsX0 (by decide) rfl rfl wf_X8_282 (by decide) rfl dX8_event_28 ?_
        refine cr_bipush h (v := (12 : Int32)) (by decide) dX8_event_31 ?_
        refine cr_icmp_lt h (tgt := 39) (by decide) dX8_event_33 (fun c3 => ?_) (fun c3 => ?_)
        · have hyp := hyp.1 c3
          refine cr_aload_n h (j := 0) rfl rfl dX8_event_39 ?_
          refine cr_getR h (k := 5) cr_clsX8 (by decide) rfl rfl wf_X8_47 (by decide) rfl rfl dX8_event_40 ?_
          refine cr_getI h (k := 1) cr_clsX0 (by decide) rfl rfl wf_X8_282 (by decide) rfl dX8_event_43 ?_
          refine cs_i_n h 3 rfl (by decide) rfl dX8_event_46 (fun v1 ev1 => ?_)
          have hyp := hyp v1 ev1
          show cr_V Γ 47 [.ref 0, .int x1, .int x2, .int v1] [] I (cr_rf τ) 247
          refine cr_aload_n h (j := 0) rfl rfl dX8_event_47 ?_
          refine cr_getR h (k := 5) cr_clsX8 (by decide) rfl rfl wf_X8_47 (by decide) rfl rfl dX8_event_48 ?_
          refine cr_getR h (k := 2) cr_clsX0 (by decide) rfl rfl wf_X8_285 (by decide) rfl rfl dX8_event_51 ?_
          refine cr_iload_n h (j := 3) rfl rfl dX8_event_54 ?_
          refine cr_iload_n h (j := 1) rfl rfl dX8_event_55 ?_
          refine cs_ist h (by decide) (by decide) rfl hyp.1 (q := v1.toNatClampNeg) rfl dX8_event_56 (fun J1 eJ1 => ?_)
          have hyp := hyp.2 J1 eJ1
          refine cr_aload_n h (j := 0) rfl rfl dX8_event_57 ?_
          refine cr_getR h (k := 5) cr_clsX8 (by decide) rfl rfl wf_X8_47 (by decide) rfl rfl dX8_event_58 ?_
          refine cr_getR h (k := 3) cr_clsX0 (by decide) rfl rfl wf_X8_288 (by decide) rfl rfl dX8_event_61 ?_
          refine cr_iload_n h (j := 3) rfl rfl dX8_event_64 ?_
          refine cr_iload_n h (j := 2) rfl rfl dX8_event_65 ?_
          refine cs_ist h (by decide) (by decide) rfl hyp.1 (q := v1.toNatClampNeg) rfl dX8_event_66 (fun J2 eJ2 => ?_)
          have hyp := hyp.2 J2 eJ2
          refine cr_aload_n h (j := 0) rfl rfl dX8_event_67 ?_
          refine cr_getR h (k := 5) cr_clsX8 (by decide) rfl rfl wf_X8_47 (by decide) rfl rfl dX8_event_68 ?_
          refine cr_dup h rfl dX8_event_71 ?_
          refine cr_getI h (k := 1) cr_clsX0 (by decide) rfl rfl wf_X8_282 (by decide) rfl dX8_event_72 ?_
          refine cr_iconst h (v := (1 : Int32)) (by decide) dX8_event_75 ?_
          refine cr_iadd h dX8_event_76 ?_
          refine cs_put h (k := 1) cr_clsX0 (by decide) rfl rfl rfl rfl wf_X8_282 (by decide) (by decide) rfl dX8_event_77 (fun J3 eJ3 => ?_)
          have hyp := hyp J3 eJ3
          refine cr_iload_n h (j := 3) rfl rfl dX8_event_80 ?_
          refine cr_iret h rfl rfl rfl dX8_event_81 ?_
          exact hK _ _ hyp
        · have hyp := hyp.2 c3
          refine cr_bipush h (v := (-5 : Int32)) (by decide) dX8_event_36 ?_
          refine cr_iret h rfl rfl rfl dX8_event_38 ?_
          exact hK _ _ hyp
      · have hyp := hyp.2 c2
        refine cr_bipush h (v := (-3 : Int32)) (by decide) dX8_event_21 ?_
        refine cr_iret h rfl rfl rfl dX8_event_23 ?_
        exact hK _ _ hyp
    · have hyp := hyp.2 c1
      refine cr_bipush h (v := (-2 : Int32)) (by decide) dX8_event_7 ?_
      refine cr_iret h rfl rfl rfl dX8_event_9 ?_
      exact hK _ _ hyp
def t_yX8_after (τ : Nat → Nat) (x1 : Int32) (x2 : Int32) (x3 : Int32) (I : cr_I) (Q : Int32 → cr_I → Prop) : Prop := (¬ (f_yX8_isNoEvent τ x1 I) = 0 → Q (-2 : Int32) I) ∧ ((f_yX8_isNoEvent τ x1 I) = 0 → ((¬ (f_yX8_isNoEvent τ x2 I) = 0 → Q (-2 : Int32) I) ∧ ((f_yX8_isNoEvent τ x2 I) = 0 → ((¬ x1 = x2 → (((f_yX8_isOutside τ x3 (0 : Int32) (99 : Int32) I) = 0 → (((I 185 4) < (12 : Int32) → ((0 ≤ (I 185 4).toInt ∧ (I 185 4).toInt < 12) ∧ (∀ J1 : cr_I, J1 = cr_up I 189 ((I 185 4).toNatClampNeg) x1 → ((0 ≤ (J1 185 4).toInt ∧ (J1 185 4).toInt < 12) ∧ (∀ J2 : cr_I, J2 = cr_up J1 190 ((J1 185 4).toNatClampNeg) x2 → ((0 ≤ (J2 185 4).toInt ∧ (J2 185 4).toInt < 12) ∧ (∀ J3 : cr_I, J3 = cr_up J2 191 ((J2 185 4).toNatClampNeg) x3 → (∀ J4 : cr_I, J4 = cr_up J3 185 4 ((J3 185 4) + (1 : Int32)) → Q (J4 185 4) J4)))))))) ∧ (¬ (I 185 4) < (12 : Int32) → Q (-5 : Int32) I))) ∧ (¬ (f_yX8_isOutside τ x3 (0 : Int32) (99 : Int32) I) = 0 → Q (-3 : Int32) I))) ∧ (x1 = x2 → Q (-2 : Int32) I)))))
abbrev T_yX8_after : cr_T := fun vs I R K => ∃ (τ : Nat → Nat) (x1 : Int32) (x2 : Int32) (x3 : Int32) (Q : Int32 → cr_I → Prop), R = cr_rf τ ∧ cr_tau τ ∧ vs = [.ref 0, .int x1, .int x2, .int x3] ∧ t_yX8_after τ x1 x2 x3 I Q ∧ ∀ r J, Q r J → K (some (.int r)) J (cr_rf τ)
theorem C_yX8_after : cr_C yX8_after cX8_after 4 (some .int) (cr_rm0 2 43) 247 247 T_yX8_after := by
  refine cr_C.of (by decide +kernel) (fun vs I R K hT => ?_) (fun Γ K h vs I R hT => ?_)
  · obtain ⟨τ, x1, x2, x3, Q, rfl, hτ, rfl, hyp, hK⟩ := hT
    exact Nat.le_of_ble_eq_true rfl
  · obtain ⟨τ, x1, x2, x3, Q, rfl, hτ, rfl, hyp, hK⟩ := hT
    unfold t_yX8_after at hyp
    show cr_V Γ 0 [.ref 0, .int x1, .int x2, .int x3] [] I (cr_rf τ) 247
    refine cr_aload_n h (j := 0) rfl rfl dX8_after_0 ?_
    refine cr_iload_n h (j := 1) rfl rfl dX8_after_1 ?_
    refine cr_callV h (c0 := 8) (T0 := TX8) C_yX8_isNoEvent cZ_yX8_isNoEvent wm_X8_291 wv_yX8_isNoEvent we_yX8_isNoEvent (by decide) rfl rfl (cr_rmS (by decide) (by decide)) (As := [.int x1]) rfl (Nat.le_of_ble_eq_true rfl) dX8_after_2 ⟨τ, x1, rfl, hτ, rfl, ?_⟩
    show cr_V Γ 5 [.ref 0, .int x1, .int x2, .int x3] [.int (f_yX8_isNoEvent τ x1 I)] I (cr_rf τ) 247
    refine cr_if_ne h (tgt := 21) (by decide) dX8_after_5 (fun c1 => ?_) (fun c1 => ?_)
    · have hyp := hyp.1 c1
      refine cr_bipush h (v := (-2 : Int32)) (by decide) dX8_after_21 ?_
      refine cr_iret h rfl rfl rfl dX8_after_23 ?_
      exact hK _ _ hyp
    · have hyp := hyp.2 c1
      refine cr_aload_n h (j := 0) rfl rfl dX8_after_8 ?_
      refine cr_iload_n h (j := 2) rfl rfl dX8_after_9 ?_
      refine cr_callV h (c0 := 8) (T0 := TX8) C_yX8_isNoEvent cZ_yX8_isNoEvent wm_X8_291 wv_yX8_isNoEvent we_yX8_isNoEvent (by decide) rfl rfl (cr_rmS (by decide) (by decide)) (As := [.int x2]) rfl (Nat.le_of_ble_eq_true rfl) dX8_after_10 ⟨τ, x2, rfl, hτ, rfl, ?_⟩
      show cr_V Γ 13 [.ref 0, .int x1, .int x2, .int x3] [.int (f_yX8_isNoEvent τ x2 I)] I (cr_rf τ) 247
      refine cr_if_ne h (tgt := 21) (by decide) dX8_after_13 (fun c2 => ?_) (fun c2 => ?_)
      · have hyp := hyp.1 c2
        refine cr_bipush h (v := (-2 : Int32)) (by decide) dX8_after_21 ?_
        refine cr_iret h rfl rfl rfl dX8_after_23 ?_
        exact hK _ _ hyp
      · have hyp := hyp.2 c2
        refine cr_iload_n h (j := 1) rfl rfl dX8_after_16 ?_
        refine cr_iload_n h (j := 2) rfl rfl dX8_after_17 ?_
        refine cr_icmp_ne h (tgt := 24) (by decide) dX8_after_18 (fun c3 => ?_) (fun c3 => ?_)
        · have hyp := hyp.1 c3
          refine cr_iload_n h (j := 3) rfl rfl dX8_after_24 ?_
          refine cr_iconst h (v := (0 : Int32)) (by decide) dX8_after_25 ?_
          refine cr_bipush h (v := (99 : Int32)) (by decide) dX8_after_26 ?_
          refine cr_callS h C_yX8_isOutside cZ_yX8_isOutside wm_X8_55 ws_yX8_isOutside (cr_rmS (by decide) (by decide)) (As := [.int x3, .int (0 : Int32), .int (99 : Int32)]) rfl (Nat.le_of_ble_eq_true rfl) dX8_after_28 ⟨τ, x3, (0 : Int32), (99 : Int32), rfl, hτ, rfl, ?_⟩
          show cr_V Γ 31 [.ref 0, .int x1, .int x2, .int x3] [.int (f_yX8_isOutside τ x3 (0 : Int32) (99 : Int32) I)] I (cr_rf τ) 247
          refine cr_if_eq h (tgt := 37) (by decide) dX8_after_31 (fun c4 => ?_) (fun c4 => ?_)
          · have hyp := hyp.1 c4
            refine cr_aload_n h (j := 0) rfl rfl dX8_after_37 ?_
            refine cr_getR h (k := 5) cr_clsX8 (by decide) rfl rfl wf_X8_47 (by decide) rfl rfl dX8_after_38 ?_
            refine cr_getI h (k := 4) cr_clsX0 (by decide) rfl rfl wf_X8_294 (by decide) rfl dX8_after_41 ?_
            refine cr_bipush h (v := (12 : Int32)) (by decide) dX8_after_44 ?_
            refine cr_icmp_lt h (tgt := 52) (by decide) dX8_after_46 (fun c5 => ?_) (fun c5 => ?_)
            · have hyp := hyp.1 c5
              refine cr_aload_n h (j := 0) rfl rfl dX8_after_52 ?_
              refine cr_getR h (k := 5) cr_clsX8 (by decide) rfl rfl wf_X8_47 (by decide) rfl rfl dX8_after_53 ?_
              refine cr_getR h (k := 5) cr_clsX0 (by decide) rfl rfl wf_X8_297 (by decide) rfl rfl dX8_after_56 ?_
              refine cr_aload_n h (j := 0) rfl rfl dX8_after_59 ?_
              refine cr_getR h (k := 5) cr_clsX8 (by decide) rfl rfl wf_X8_47 (by decide) rfl rfl dX8_after_60 ?_
              refine cr_getI h (k := 4) cr_clsX0 (by decide) rfl rfl wf_X8_294 (by decide) rfl dX8_after_63 ?_
              refine cr_iload_n h (j := 1) rfl rfl dX8_after_66 ?_
              refine cs_ist h (by decide) (by decide) rfl hyp.1 (q := (I 185 4).toNatClampNeg) rfl dX8_after_67 (fun J1 eJ1 => ?_)
              have hyp := hyp.2 J1 eJ1
              refine cr_aload_n h (j := 0) rfl rfl dX8_after_68 ?_
              refine cr_getR h (k := 5) cr_clsX8 (by decide) rfl rfl wf_X8_47 (by decide) rfl rfl dX8_after_69 ?_
              refine cr_getR h (k := 6) cr_clsX0 (by decide) rfl rfl wf_X8_300 (by decide) rfl rfl dX8_after_72 ?_
              refine cr_aload_n h (j := 0) rfl rfl dX8_after_75 ?_
              refine cr_getR h (k := 5) cr_clsX8 (by decide) rfl rfl wf_X8_47 (by decide) rfl rfl dX8_after_76 ?_
              refine cr_getI h (k := 4) cr_clsX0 (by decide) rfl rfl wf_X8_294 (by decide) rfl dX8_after_79 ?_
              refine cr_iload_n h (j := 2) rfl rfl dX8_after_82 ?_
              refine cs_ist h (by decide) (by decide) rfl hyp.1 (q := (J1 185 4).toNatClampNeg) rfl dX8_after_83 (fun J2 eJ2 => ?_)
              have hyp := hyp.2 J2 eJ2
              refine cr_aload_n h (j := 0) rfl rfl dX8_after_84 ?_
              refine cr_getR h (k := 5) cr_clsX8 (by decide) rfl rfl wf_X8_47 (by decide) rfl rfl dX8_after_85 ?_
              refine cr_getR h (k := 7) cr_clsX0 (by decide) rfl rfl wf_X8_303 (by decide) rfl rfl dX8_after_88 ?_
              refine cr_aload_n h (j := 0) rfl rfl dX8_after_91 ?_
              refine cr_getR h (k := 5) cr_clsX8 (by decide) rfl rfl wf_X8_47 (by decide) rfl rfl dX8_after_92 ?_
              refine cr_getI h (k := 4) cr_clsX0 (by decide) rfl rfl wf_X8_294 (by decide) rfl dX8_after_95 ?_
              refine cr_iload_n h (j := 3) rfl rfl dX8_after_98 ?_
              refine cs_ist h (by decide) (by decide) rfl hyp.1 (q := (J2 185 4).toNatClampNeg) rfl dX8_after_99 (fun J3 eJ3 => ?_)
              have hyp := hyp.2 J3 eJ3
              refine cr_aload_n h (j := 0) rfl rfl dX8_after_100 ?_
              refine cr_getR h (k := 5) cr_clsX8 (by decide) rfl rfl wf_X8_47 (by decide) rfl rfl dX8_after_101 ?_
              refine cr_dup h rfl dX8_after_104 ?_
              refine cr_getI h (k := 4) cr_clsX0 (by decide) rfl rfl wf_X8_294 (by decide) rfl dX8_after_105 ?_
              refine cr_iconst h (v := (1 : Int32)) (by decide) dX8_after_108 ?_
              refine cr_iadd h dX8_after_109 ?_
              refine cs_put h (k := 4) cr_clsX0 (by decide) rfl rfl rfl rfl wf_X8_294 (by decide) (by decide) rfl dX8_after_110 (fun J4 eJ4 => ?_)
              have hyp := hyp J4 eJ4
              refine cr_aload_n h (j := 0) rfl rfl dX8_after_113 ?_
              refine cr_getR h (k := 5) cr_clsX8 (by decide) rfl rfl wf_X8_47 (by decide) rfl rfl dX8_after_114 ?_
              refine cr_getI h (k := 4) cr_clsX0 (by decide) rfl rfl wf_X8_294 (by decide) rfl dX8_after_117 ?_
              refine cr_iret h rfl rfl rfl dX8_after_120 ?_
              exact hK _ _ hyp
            · have hyp := hyp.2 c5
              refine cr_bipush h (v := (-5 : Int32)) (by decide) dX8_after_49 ?_
              refine cr_iret h rfl rfl rfl dX8_after_51 ?_
              exact hK _ _ hyp
          · have hyp := hyp.2 c4
            refine cr_bipush h (v := (-3 : Int32)) (by decide) dX8_after_34 ?_
            refine cr_iret h rfl rfl rfl dX8_after_36 ?_
            exact hK _ _ hyp
        · have hyp := hyp.2 c3
          refine cr_bipush h (v := (-2 : Int32)) (by decide) dX8_after_21 ?_
          refine cr_iret h rfl rfl rfl dX8_after_23 ?_
          exact hK _ _ hyp
def t_yX8_count (τ : Nat → Nat) (x1 : Int32) (I : cr_I) (Q : Int32 → cr_I → Prop) : Prop := ((x1.toInt < 0 ∨ 6 < x1.toInt) → Q (-3 : Int32) I) ∧ (x1 = Int32.ofNat 0 → Q (I 27 1) I) ∧ (x1 = Int32.ofNat 1 → Q (I 27 5) I) ∧ (x1 = Int32.ofNat 2 → Q (I 27 8) I) ∧ (x1 = Int32.ofNat 3 → Q (I 169 0) I) ∧ (x1 = Int32.ofNat 4 → Q (I 185 1) I) ∧ (x1 = Int32.ofNat 5 → Q (I 185 4) I) ∧ (x1 = Int32.ofNat 6 → Q (I 1 1) I)
abbrev T_yX8_count : cr_T := fun vs I R K => ∃ (τ : Nat → Nat) (x1 : Int32) (Q : Int32 → cr_I → Prop), R = cr_rf τ ∧ cr_tau τ ∧ vs = [.ref 0, .int x1] ∧ t_yX8_count τ x1 I Q ∧ ∀ r J, Q r J → K (some (.int r)) J (cr_rf τ)
theorem C_yX8_count : cr_C yX8_count cX8_count 2 (some .int) (cr_rm0 0 0) 247 247 T_yX8_count := by
  refine cr_C.of (by decide +kernel) (fun vs I R K hT => ?_) (fun Γ K h vs I R hT => ?_)
  · obtain ⟨τ, x1, Q, rfl, hτ, rfl, hyp, hK⟩ := hT
    exact Nat.le_of_ble_eq_true rfl
  · obtain ⟨τ, x1, Q, rfl, hτ, rfl, hyp, hK⟩ := hT
    unfold t_yX8_count at hyp
    show cr_V Γ 0 [.ref 0, .int x1] [] I (cr_rf τ) 247
    refine cr_iload_n h (j := 1) rfl rfl dX8_count_0 ?_
    refine cs_sw h [44, 52, 60, 68, 76, 84, 92] (by decide) (by decide) (dt := 100) (by decide) (by decide) dX8_count_1 (fun c1 => ?_) (fun jc1 hjc1 c1 => ?_)
    · have hyp := hyp.1 c1
      refine cr_bipush h (v := (-3 : Int32)) (by decide) dX8_count_100 ?_
      refine cr_iret h rfl rfl rfl dX8_count_102 ?_
      exact hK _ _ hyp
    · rcases (show jc1 = 0 ∨ jc1 = 1 ∨ jc1 = 2 ∨ jc1 = 3 ∨ jc1 = 4 ∨ jc1 = 5 ∨ jc1 = 6 by have : jc1 < 7 := hjc1; omega) with rfl | rfl | rfl | rfl | rfl | rfl | rfl
      · have hyp := hyp.2.1 c1
        refine cr_aload_n h (j := 0) rfl rfl dX8_count_44 ?_
        refine cr_getR h (k := 1) cr_clsX8 (by decide) rfl rfl wf_X8_19 (by decide) rfl rfl dX8_count_45 ?_
        refine cr_getI h (k := 1) cr_clsX3 (by decide) rfl rfl wf_X8_103 (by decide) rfl dX8_count_48 ?_
        refine cr_iret h rfl rfl rfl dX8_count_51 ?_
        exact hK _ _ hyp
      · have hyp := hyp.2.2.1 c1
        refine cr_aload_n h (j := 0) rfl rfl dX8_count_52 ?_
        refine cr_getR h (k := 1) cr_clsX8 (by decide) rfl rfl wf_X8_19 (by decide) rfl rfl dX8_count_53 ?_
        refine cr_getI h (k := 5) cr_clsX3 (by decide) rfl rfl wf_X8_119 (by decide) rfl dX8_count_56 ?_
        refine cr_iret h rfl rfl rfl dX8_count_59 ?_
        exact hK _ _ hyp
      · have hyp := hyp.2.2.2.1 c1
        refine cr_aload_n h (j := 0) rfl rfl dX8_count_60 ?_
        refine cr_getR h (k := 1) cr_clsX8 (by decide) rfl rfl wf_X8_19 (by decide) rfl rfl dX8_count_61 ?_
        refine cr_getI h (k := 8) cr_clsX3 (by decide) rfl rfl wf_X8_135 (by decide) rfl dX8_count_64 ?_
        refine cr_iret h rfl rfl rfl dX8_count_67 ?_
        exact hK _ _ hyp
      · have hyp := hyp.2.2.2.2.1 c1
        refine cr_aload_n h (j := 0) rfl rfl dX8_count_68 ?_
        refine cr_getR h (k := 3) cr_clsX8 (by decide) rfl rfl wf_X8_33 (by decide) rfl rfl dX8_count_69 ?_
        refine cr_getI h (k := 0) cr_clsX1 (by decide) rfl rfl wf_X8_227 (by decide) rfl dX8_count_72 ?_
        refine cr_iret h rfl rfl rfl dX8_count_75 ?_
        exact hK _ _ hyp
      · have hyp := hyp.2.2.2.2.2.1 c1
        refine cr_aload_n h (j := 0) rfl rfl dX8_count_76 ?_
        refine cr_getR h (k := 5) cr_clsX8 (by decide) rfl rfl wf_X8_47 (by decide) rfl rfl dX8_count_77 ?_
        refine cr_getI h (k := 1) cr_clsX0 (by decide) rfl rfl wf_X8_282 (by decide) rfl dX8_count_80 ?_
        refine cr_iret h rfl rfl rfl dX8_count_83 ?_
        exact hK _ _ hyp
      · have hyp := hyp.2.2.2.2.2.2.1 c1
        refine cr_aload_n h (j := 0) rfl rfl dX8_count_84 ?_
        refine cr_getR h (k := 5) cr_clsX8 (by decide) rfl rfl wf_X8_47 (by decide) rfl rfl dX8_count_85 ?_
        refine cr_getI h (k := 4) cr_clsX0 (by decide) rfl rfl wf_X8_294 (by decide) rfl dX8_count_88 ?_
        refine cr_iret h rfl rfl rfl dX8_count_91 ?_
        exact hK _ _ hyp
      · have hyp := hyp.2.2.2.2.2.2.2 c1
        refine cr_aload_n h (j := 0) rfl rfl dX8_count_92 ?_
        refine cr_getR h (k := 0) cr_clsX8 (by decide) rfl rfl wf_X8_10 (by decide) rfl rfl dX8_count_93 ?_
        refine cr_getI h (k := 1) cr_clsX7 (by decide) rfl rfl wf_X8_78 (by decide) rfl dX8_count_96 ?_
        refine cr_iret h rfl rfl rfl dX8_count_99 ?_
        exact hK _ _ hyp
def t_yX9_make (τ : Nat → Nat) (x1 : Int32) (x2 : Int32) (x3 : Int32) (x4 : Int32) (x5 : Int32) (I : cr_I) (Q : Int32 → cr_I → Prop) : Prop := (¬ (f_yX9_isMake τ x1 I) = 0 → (((f_yX9_in τ x2.toInt64 (1 : Int64) (40 : Int64) I) = 0 → Q (-3 : Int32) I) ∧ (¬ (f_yX9_in τ x2.toInt64 (1 : Int64) (40 : Int64) I) = 0 → (((f_yX9_in τ x3.toInt64 (1 : Int64) (9 : Int64) I) = 0 → Q (-3 : Int32) I) ∧ (¬ (f_yX9_in τ x3.toInt64 (1 : Int64) (9 : Int64) I) = 0 → (((f_yX9_in τ x4.toInt64 (1 : Int64) (5 : Int64) I) = 0 → Q (-3 : Int32) I) ∧ (¬ (f_yX9_in τ x4.toInt64 (1 : Int64) (5 : Int64) I) = 0 → ((¬ (f_yX9_in τ x5.toInt64 (0 : Int64) (3 : Int64) I) = 0 → ((0 ≤ x1.toInt ∧ x1.toInt < 4) ∧ (∀ J1 : cr_I, J1 = cr_up I 201 x1.toNatClampNeg x2 → ((0 ≤ x1.toInt ∧ x1.toInt < 4) ∧ (∀ J2 : cr_I, J2 = cr_up J1 202 x1.toNatClampNeg x3 → ((0 ≤ x1.toInt ∧ x1.toInt < 4) ∧ (∀ J3 : cr_I, J3 = cr_up J2 203 x1.toNatClampNeg x4 → ((0 ≤ x1.toInt ∧ x1.toInt < 4) ∧ (∀ J4 : cr_I, J4 = cr_up J3 204 x1.toNatClampNeg x5 → Q (1 : Int32) J4))))))))) ∧ ((f_yX9_in τ x5.toInt64 (0 : Int64) (3 : Int64) I) = 0 → Q (-3 : Int32) I))))))))) ∧ ((f_yX9_isMake τ x1 I) = 0 → Q (-2 : Int32) I)
abbrev T_yX9_make : cr_T := fun vs I R K => ∃ (τ : Nat → Nat) (x1 : Int32) (x2 : Int32) (x3 : Int32) (x4 : Int32) (x5 : Int32) (Q : Int32 → cr_I → Prop), R = cr_rf τ ∧ cr_tau τ ∧ vs = [.ref 200, .int x1, .int x2, .int x3, .int x4, .int x5] ∧ t_yX9_make τ x1 x2 x3 x4 x5 I Q ∧ ∀ r J, Q r J → K (some (.int r)) J (cr_rf τ)
theorem C_yX9_make : cr_C yX9_make cX9_make 6 (some .int) (cr_rm0 2 45) 247 247 T_yX9_make := by
  refine cr_C.of (by decide +kernel) (fun vs I R K hT => ?_) (fun Γ K h vs I R hT => ?_)
  · obtain ⟨τ, x1, x2, x3, x4, x5, Q, rfl, hτ, rfl, hyp, hK⟩ := hT
    exact Nat.le_of_ble_eq_true rfl
  · obtain ⟨τ, x1, x2, x3, x4, x5, Q, rfl, hτ, rfl, hyp, hK⟩ := hT
    unfold t_yX9_make at hyp
    show cr_V Γ 0 [.ref 200, .int x1, .int x2, .int x3, .int x4, .int x5] [] I (cr_rf τ) 247
    refine cr_iload_n h (j := 1) rfl rfl dX9_make_0 ?_
    refine cr_callS h C_yX9_isMake cZ_yX9_isMake wm_X9_160 ws_yX9_isMake (cr_rmS (by decide) (by decide)) (As := [.int x1]) rfl (Nat.le_of_ble_eq_true rfl) dX9_make_1 ⟨τ, x1, rfl, hτ, rfl, ?_⟩
    show cr_V Γ 4 [.ref 200, .int x1, .int x2, .int x3, .int x4, .int x5] [.int (f_yX9_isMake τ x1 I)] I (cr_rf τ) 247
    refine cr_if_ne h (tgt := 10) (by decide) dX9_make_4 (fun c1 => ?_) (fun c1 => ?_)
    · have hyp := hyp.1 c1
      refine cr_iload_n h (j := 2) rfl rfl dX9_make_10 ?_
      refine cr_i2l h dX9_make_11 ?_
      refine cr_lconst h (v := (1 : Int64)) (by decide) dX9_make_12 ?_
      refine cr_ldc2 h wc_X9_164 dX9_make_13 ?_
      refine cr_callS h C_yX9_in cZ_yX9_in wm_X9_154 ws_yX9_in (cr_rmS (by decide) (by decide)) (As := [.long x2.toInt64, .long (1 : Int64), .long (40 : Int64)]) rfl (Nat.le_of_ble_eq_true rfl) dX9_make_16 ⟨τ, x2.toInt64, (1 : Int64), (40 : Int64), rfl, hτ, rfl, ?_⟩
      show cr_V Γ 19 [.ref 200, .int x1, .int x2, .int x3, .int x4, .int x5] [.int (f_yX9_in τ x2.toInt64 (1 : Int64) (40 : Int64) I)] I (cr_rf τ) 247
      refine cr_if_eq h (tgt := 60) (by decide) dX9_make_19 (fun c2 => ?_) (fun c2 => ?_)
      · have hyp := hyp.1 c2
        refine cr_bipush h (v := (-3 : Int32)) (by decide) dX9_make_60 ?_
        refine cr_iret h rfl rfl rfl dX9_make_62 ?_
        exact hK _ _ hyp
      · have hyp := hyp.2 c2
        refine cr_iload_n h (j := 3) rfl rfl dX9_make_22 ?_
        refine cr_i2l h dX9_make_23 ?_
        refine cr_lconst h (v := (1 : Int64)) (by decide) dX9_make_24 ?_
        refine cr_ldc2 h wc_X9_166 dX9_make_25 ?_
        refine cr_callS h C_yX9_in cZ_yX9_in wm_X9_154 ws_yX9_in (cr_rmS (by decide) (by decide)) (As := [.long x3.toInt64, .long (1 : Int64), .long (9 : Int64)]) rfl (Nat.le_of_ble_eq_true rfl) dX9_make_28 ⟨τ, x3.toInt64, (1 : Int64), (9 : Int64), rfl, hτ, rfl, ?_⟩
        show cr_V Γ 31 [.ref 200, .int x1, .int x2, .int x3, .int x4, .int x5] [.int (f_yX9_in τ x3.toInt64 (1 : Int64) (9 : Int64) I)] I (cr_rf τ) 247
        refine cr_if_eq h (tgt := 60) (by decide) dX9_make_31 (fun c3 => ?_) (fun c3 => ?_)
        · have hyp := hyp.1 c3
          refine cr_bipush h (v := (-3 : Int32)) (by decide) dX9_make_60 ?_
          refine cr_iret h rfl rfl rfl dX9_make_62 ?_
          exact hK _ _ hyp
        · have hyp := hyp.2 c3
          refine cr_iload h rfl dX9_make_34 ?_
          refine cr_i2l h dX9_make_36 ?_
          refine cr_lconst h (v := (1 : Int64)) (by decide) dX9_make_37 ?_
          refine cr_ldc2 h wc_X9_158 dX9_make_38 ?_
          refine cr_callS h C_yX9_in cZ_yX9_in wm_X9_154 ws_yX9_in (cr_rmS (by decide) (by decide)) (As := [.long x4.toInt64, .long (1 : Int64), .long (5 : Int64)]) rfl (Nat.le_of_ble_eq_true rfl) dX9_make_41 ⟨τ, x4.toInt64, (1 : Int64), (5 : Int64), rfl, hτ, rfl, ?_⟩
          show cr_V Γ 44 [.ref 200, .int x1, .int x2, .int x3, .int x4, .int x5] [.int (f_yX9_in τ x4.toInt64 (1 : Int64) (5 : Int64) I)] I (cr_rf τ) 247
          refine cr_if_eq h (tgt := 60) (by decide) dX9_make_44 (fun c4 => ?_) (fun c4 => ?_)
          · have hyp := hyp.1 c4
            refine cr_bipush h (v := (-3 : Int32)) (by decide) dX9_make_60 ?_
            refine cr_iret h rfl rfl rfl dX9_make_62 ?_
            exact hK _ _ hyp
          · have hyp := hyp.2 c4
            refine cr_iload h rfl dX9_make_47 ?_
            refine cr_i2l h dX9_make_49 ?_
            refine cr_lconst h (v := (0 : Int64)) (by decide) dX9_make_50 ?_
            refine cr_ldc2 h wc_X9_152 dX9_make_51 ?_
            refine cr_callS h C_yX9_in cZ_yX9_in wm_X9_154 ws_yX9_in (cr_rmS (by decide) (by decide)) (As := [.long x5.toInt64, .long (0 : Int64), .long (3 : Int64)]) rfl (Nat.le_of_ble_eq_true rfl) dX9_make_54 ⟨τ, x5.toInt64, (0 : Int64), (3 : Int64), rfl, hτ, rfl, ?_⟩
            show cr_V Γ 57 [.ref 200, .int x1, .int x2, .int x3, .int x4, .int x5] [.int (f_yX9_in τ x5.toInt64 (0 : Int64) (3 : Int64) I)] I (cr_rf τ) 247
            refine cr_if_ne h (tgt := 63) (by decide) dX9_make_57 (fun c5 => ?_) (fun c5 => ?_)
            · have hyp := hyp.1 c5
              refine cr_aload_n h (j := 0) rfl rfl dX9_make_63 ?_
              refine cr_getR h (k := 0) cr_clsX9 (by decide) rfl rfl wf_X9_7 (by decide) rfl rfl dX9_make_64 ?_
              refine cr_iload_n h (j := 1) rfl rfl dX9_make_67 ?_
              refine cr_iload_n h (j := 2) rfl rfl dX9_make_68 ?_
              refine cs_ist h (by decide) (by decide) rfl hyp.1 (q := x1.toNatClampNeg) rfl dX9_make_69 (fun J1 eJ1 => ?_)
              have hyp := hyp.2 J1 eJ1
              refine cr_aload_n h (j := 0) rfl rfl dX9_make_70 ?_
              refine cr_getR h (k := 1) cr_clsX9 (by decide) rfl rfl wf_X9_13 (by decide) rfl rfl dX9_make_71 ?_
              refine cr_iload_n h (j := 1) rfl rfl dX9_make_74 ?_
              refine cr_iload_n h (j := 3) rfl rfl dX9_make_75 ?_
              refine cs_ist h (by decide) (by decide) rfl hyp.1 (q := x1.toNatClampNeg) rfl dX9_make_76 (fun J2 eJ2 => ?_)
              have hyp := hyp.2 J2 eJ2
              refine cr_aload_n h (j := 0) rfl rfl dX9_make_77 ?_
              refine cr_getR h (k := 2) cr_clsX9 (by decide) rfl rfl wf_X9_16 (by decide) rfl rfl dX9_make_78 ?_
              refine cr_iload_n h (j := 1) rfl rfl dX9_make_81 ?_
              refine cr_iload h rfl dX9_make_82 ?_
              refine cs_ist h (by decide) (by decide) rfl hyp.1 (q := x1.toNatClampNeg) rfl dX9_make_84 (fun J3 eJ3 => ?_)
              have hyp := hyp.2 J3 eJ3
              refine cr_aload_n h (j := 0) rfl rfl dX9_make_85 ?_
              refine cr_getR h (k := 3) cr_clsX9 (by decide) rfl rfl wf_X9_19 (by decide) rfl rfl dX9_make_86 ?_
              refine cr_iload_n h (j := 1) rfl rfl dX9_make_89 ?_
              refine cr_iload h rfl dX9_make_90 ?_
              refine cs_ist h (by decide) (by decide) rfl hyp.1 (q := x1.toNatClampNeg) rfl dX9_make_92 (fun J4 eJ4 => ?_)
              have hyp := hyp.2 J4 eJ4
              refine cr_iconst h (v := (1 : Int32)) (by decide) dX9_make_93 ?_
              refine cr_iret h rfl rfl rfl dX9_make_94 ?_
              exact hK _ _ hyp
            · have hyp := hyp.2 c5
              refine cr_bipush h (v := (-3 : Int32)) (by decide) dX9_make_60 ?_
              refine cr_iret h rfl rfl rfl dX9_make_62 ?_
              exact hK _ _ hyp
    · have hyp := hyp.2 c1
      refine cr_bipush h (v := (-2 : Int32)) (by decide) dX9_make_7 ?_
      refine cr_iret h rfl rfl rfl dX9_make_9 ?_
      exact hK _ _ hyp
def t_yX9_erase (τ : Nat → Nat) (I : cr_I) (Q : Int32 → cr_I → Prop) : Prop := ∀ v1 : Int32, v1 = (I 200 5) → (∀ J1 : cr_I, J1 = cr_up I 200 5 (0 : Int32) → Q v1 J1)
abbrev T_yX9_erase : cr_T := fun vs I R K => ∃ (τ : Nat → Nat) (Q : Int32 → cr_I → Prop), R = cr_rf τ ∧ cr_tau τ ∧ vs = [.ref 200] ∧ t_yX9_erase τ I Q ∧ ∀ r J, Q r J → K (some (.int r)) J (cr_rf τ)
theorem C_yX9_erase : cr_C yX9_erase cX9_erase 2 (some .int) (cr_rm0 0 0) 247 247 T_yX9_erase := by
  refine cr_C.of (by decide +kernel) (fun vs I R K hT => ?_) (fun Γ K h vs I R hT => ?_)
  · obtain ⟨τ, Q, rfl, hτ, rfl, hyp, hK⟩ := hT
    exact Nat.le_of_ble_eq_true rfl
  · obtain ⟨τ, Q, rfl, hτ, rfl, hyp, hK⟩ := hT
    unfold t_yX9_erase at hyp
    show cr_V Γ 0 [.ref 200, .null] [] I (cr_rf τ) 247
    refine cr_aload_n h (j := 0) rfl rfl dX9_erase_0 ?_
    refine cr_getI h (k := 5) cr_clsX9 (by decide) rfl rfl wf_X9_170 (by decide) rfl dX9_erase_1 ?_
    refine cs_i_n h 1 rfl (by decide) rfl dX9_erase_4 (fun v1 ev1 => ?_)
    have hyp := hyp v1 ev1
    show cr_V Γ 5 [.ref 200, .int v1] [] I (cr_rf τ) 247
    refine cr_aload_n h (j := 0) rfl rfl dX9_erase_5 ?_
    refine cr_iconst h (v := (0 : Int32)) (by decide) dX9_erase_6 ?_
    refine cs_put h (k := 5) cr_clsX9 (by decide) rfl rfl rfl rfl wf_X9_170 (by decide) (by decide) rfl dX9_erase_7 (fun J1 eJ1 => ?_)
    have hyp := hyp J1 eJ1
    refine cr_iload_n h (j := 1) rfl rfl dX9_erase_10 ?_
    refine cr_iret h rfl rfl rfl dX9_erase_11 ?_
    exact hK _ _ hyp
def t_yX9_set (τ : Nat → Nat) (x1 : Int32) (x2 : Int32) (I : cr_I) (Q : Int32 → cr_I → Prop) : Prop := ((f_yX9_in τ x1.toInt64 (0 : Int64) (4 : Int64) I) = 0 → Q (-3 : Int32) I) ∧ (¬ (f_yX9_in τ x1.toInt64 (0 : Int64) (4 : Int64) I) = 0 → ((¬ (f_yX9_in τ x2.toInt64 (if x1 = 0 then (1 : Int64) else (0 : Int64)) (if x1 = 0 then (99 : Int64) else (if x1 = (1 : Int32) then (40 : Int64) else (if x1 = (2 : Int32) then (4 : Int64) else (9 : Int64)))) I) = 0 → ((0 ≤ x1.toInt ∧ x1.toInt < 5) ∧ (∀ v1 : Int32, v1 = (I 214 x1.toNatClampNeg) → ((0 ≤ x1.toInt ∧ x1.toInt < 5) ∧ (∀ J1 : cr_I, J1 = cr_up I 214 x1.toNatClampNeg x2 → Q v1 J1))))) ∧ ((f_yX9_in τ x2.toInt64 (if x1 = 0 then (1 : Int64) else (0 : Int64)) (if x1 = 0 then (99 : Int64) else (if x1 = (1 : Int32) then (40 : Int64) else (if x1 = (2 : Int32) then (4 : Int64) else (9 : Int64)))) I) = 0 → Q (-3 : Int32) I)))
abbrev T_yX9_set : cr_T := fun vs I R K => ∃ (τ : Nat → Nat) (x1 : Int32) (x2 : Int32) (Q : Int32 → cr_I → Prop), R = cr_rf τ ∧ cr_tau τ ∧ vs = [.ref 200, .int x1, .int x2] ∧ t_yX9_set τ x1 x2 I Q ∧ ∀ r J, Q r J → K (some (.int r)) J (cr_rf τ)
theorem C_yX9_set : cr_C yX9_set cX9_set 4 (some .int) (cr_rm0 1 25) 247 247 T_yX9_set := by
  refine cr_C.of (by decide +kernel) (fun vs I R K hT => ?_) (fun Γ K h vs I R hT => ?_)
  · obtain ⟨τ, x1, x2, Q, rfl, hτ, rfl, hyp, hK⟩ := hT
    exact Nat.le_of_ble_eq_true rfl
  · obtain ⟨τ, x1, x2, Q, rfl, hτ, rfl, hyp, hK⟩ := hT
    unfold t_yX9_set at hyp
    show cr_V Γ 0 [.ref 200, .int x1, .int x2, .null] [] I (cr_rf τ) 247
    refine cr_iload_n h (j := 1) rfl rfl dX9_set_0 ?_
    refine cr_i2l h dX9_set_1 ?_
    refine cr_lconst h (v := (0 : Int64)) (by decide) dX9_set_2 ?_
    refine cr_ldc2 h wc_X9_248 dX9_set_3 ?_
    refine cr_callS h C_yX9_in cZ_yX9_in wm_X9_154 ws_yX9_in (cr_rmS (by decide) (by decide)) (As := [.long x1.toInt64, .long (0 : Int64), .long (4 : Int64)]) rfl (Nat.le_of_ble_eq_true rfl) dX9_set_6 ⟨τ, x1.toInt64, (0 : Int64), (4 : Int64), rfl, hτ, rfl, ?_⟩
    show cr_V Γ 9 [.ref 200, .int x1, .int x2, .null] [.int (f_yX9_in τ x1.toInt64 (0 : Int64) (4 : Int64) I)] I (cr_rf τ) 247
    refine cr_if_eq h (tgt := 64) (by decide) dX9_set_9 (fun c1 => ?_) (fun c1 => ?_)
    · have hyp := hyp.1 c1
      refine cr_bipush h (v := (-3 : Int32)) (by decide) dX9_set_64 ?_
      refine cr_iret h rfl rfl rfl dX9_set_66 ?_
      exact hK _ _ hyp
    · have hyp := hyp.2 c1
      refine cr_iload_n h (j := 2) rfl rfl dX9_set_12 ?_
      refine cr_i2l h dX9_set_13 ?_
      refine cr_iload_n h (j := 1) rfl rfl dX9_set_14 ?_
      have J3 : cr_V Γ 23 [.ref 200, .int x1, .int x2, .null] [.long (if x1 = 0 then (1 : Int64) else (0 : Int64)), .long x2.toInt64] I (cr_rf τ) 247 := by
        refine cr_iload_n h (j := 1) rfl rfl dX9_set_23 ?_
        have J2 : cr_V Γ 58 [.ref 200, .int x1, .int x2, .null] [.long (if x1 = 0 then (99 : Int64) else (if x1 = (1 : Int32) then (40 : Int64) else (if x1 = (2 : Int32) then (4 : Int64) else (9 : Int64)))), .long (if x1 = 0 then (1 : Int64) else (0 : Int64)), .long x2.toInt64] I (cr_rf τ) 247 := by
          refine cr_callS h C_yX9_in cZ_yX9_in wm_X9_154 ws_yX9_in (cr_rmS (by decide) (by decide)) (As := [.long x2.toInt64, .long (if x1 = 0 then (1 : Int64) else (0 : Int64)), .long (if x1 = 0 then (99 : Int64) else (if x1 = (1 : Int32) then (40 : Int64) else (if x1 = (2 : Int32) then (4 : Int64) else (9 : Int64))))]) rfl (Nat.le_of_ble_eq_true rfl) dX9_set_58 ⟨τ, x2.toInt64, (if x1 = 0 then (1 : Int64) else (0 : Int64)), (if x1 = 0 then (99 : Int64) else (if x1 = (1 : Int32) then (40 : Int64) else (if x1 = (2 : Int32) then (4 : Int64) else (9 : Int64)))), rfl, hτ, rfl, ?_⟩
          show cr_V Γ 61 [.ref 200, .int x1, .int x2, .null] [.int (f_yX9_in τ x2.toInt64 (if x1 = 0 then (1 : Int64) else (0 : Int64)) (if x1 = 0 then (99 : Int64) else (if x1 = (1 : Int32) then (40 : Int64) else (if x1 = (2 : Int32) then (4 : Int64) else (9 : Int64)))) I)] I (cr_rf τ) 247
          refine cr_if_ne h (tgt := 67) (by decide) dX9_set_61 (fun c6 => ?_) (fun c6 => ?_)
          · have hyp := hyp.1 c6
            refine cr_aload_n h (j := 0) rfl rfl dX9_set_67 ?_
            refine cr_getR h (k := 15) cr_clsX9 (by decide) rfl rfl wf_X9_53 (by decide) rfl rfl dX9_set_68 ?_
            refine cr_iload_n h (j := 1) rfl rfl dX9_set_71 ?_
            refine cs_ild h (by decide) rfl hyp.1 (q := x1.toNatClampNeg) rfl dX9_set_72 ?_
            have hyp := hyp.2
            refine cs_i_n h 3 rfl (by decide) rfl dX9_set_73 (fun v1 ev1 => ?_)
            have hyp := hyp v1 ev1
            show cr_V Γ 74 [.ref 200, .int x1, .int x2, .int v1] [] I (cr_rf τ) 247
            refine cr_aload_n h (j := 0) rfl rfl dX9_set_74 ?_
            refine cr_getR h (k := 15) cr_clsX9 (by decide) rfl rfl wf_X9_53 (by decide) rfl rfl dX9_set_75 ?_
            refine cr_iload_n h (j := 1) rfl rfl dX9_set_78 ?_
            refine cr_iload_n h (j := 2) rfl rfl dX9_set_79 ?_
            refine cs_ist h (by decide) (by decide) rfl hyp.1 (q := x1.toNatClampNeg) rfl dX9_set_80 (fun J1 eJ1 => ?_)
            have hyp := hyp.2 J1 eJ1
            refine cr_iload_n h (j := 3) rfl rfl dX9_set_81 ?_
            refine cr_iret h rfl rfl rfl dX9_set_82 ?_
            exact hK _ _ hyp
          · have hyp := hyp.2 c6
            refine cr_bipush h (v := (-3 : Int32)) (by decide) dX9_set_64 ?_
            refine cr_iret h rfl rfl rfl dX9_set_66 ?_
            exact hK _ _ hyp
        refine cr_if_ne h (tgt := 33) (by decide) dX9_set_24 (fun c3 => ?_) (fun c3 => ?_)
        · refine cr_iload_n h (j := 1) rfl rfl dX9_set_33 ?_
          refine cr_iconst h (v := (1 : Int32)) (by decide) dX9_set_34 ?_
          refine cr_icmp_ne h (tgt := 44) (by decide) dX9_set_35 (fun c4 => ?_) (fun c4 => ?_)
          · refine cr_iload_n h (j := 1) rfl rfl dX9_set_44 ?_
            refine cr_iconst h (v := (2 : Int32)) (by decide) dX9_set_45 ?_
            refine cr_icmp_ne h (tgt := 55) (by decide) dX9_set_46 (fun c5 => ?_) (fun c5 => ?_)
            · refine cr_ldc2 h wc_X9_166 dX9_set_55 ?_
              exact cr_iteL (by rw [if_neg c3, if_neg c4, if_neg c5]) J2
            · refine cr_ldc2 h wc_X9_248 dX9_set_49 ?_
              refine cr_goto h (tgt := 58) (by decide) dX9_set_52 ?_
              exact cr_iteL (by rw [if_neg c3, if_neg c4, if_pos c5]) J2
          · refine cr_ldc2 h wc_X9_164 dX9_set_38 ?_
            refine cr_goto h (tgt := 58) (by decide) dX9_set_41 ?_
            exact cr_iteL (by rw [if_neg c3, if_pos c4]) J2
        · refine cr_ldc2 h wc_X9_250 dX9_set_27 ?_
          refine cr_goto h (tgt := 58) (by decide) dX9_set_30 ?_
          exact cr_iteL (by rw [if_pos c3]) J2
      refine cr_if_ne h (tgt := 22) (by decide) dX9_set_15 (fun c2 => ?_) (fun c2 => ?_)
      · refine cr_lconst h (v := (0 : Int64)) (by decide) dX9_set_22 ?_
        exact cr_iteL (by rw [if_neg c2]) J3
      · refine cr_lconst h (v := (1 : Int64)) (by decide) dX9_set_18 ?_
        refine cr_goto h (tgt := 23) (by decide) dX9_set_19 ?_
        exact cr_iteL (by rw [if_pos c2]) J3
def t_yX9_push (τ : Nat → Nat) (x1 : Int32) (x2 : Int32) (I : cr_I) (Q : Int32 → cr_I → Prop) : Prop := ((f_yX9_in τ x1.toInt64 (0 : Int64) (31 : Int64) I) = 0 → Q (-3 : Int32) I) ∧ (¬ (f_yX9_in τ x1.toInt64 (0 : Int64) (31 : Int64) I) = 0 → ((¬ (f_yX9_in τ x2.toInt64 (-9 : Int64) (5 : Int64) I) = 0 → ((¬ (I 200 18) = (8 : Int32) → ((0 ≤ (I 200 18).toInt ∧ (I 200 18).toInt < 8) ∧ (∀ J1 : cr_I, J1 = cr_up I 215 ((I 200 18).toNatClampNeg) x1 → ((0 ≤ (J1 200 18).toInt ∧ (J1 200 18).toInt < 8) ∧ (∀ J2 : cr_I, J2 = cr_up J1 216 ((J1 200 18).toNatClampNeg) x2 → (∀ J3 : cr_I, J3 = cr_up J2 200 18 ((J2 200 18) + (1 : Int32)) → Q (J3 200 18) J3)))))) ∧ ((I 200 18) = (8 : Int32) → Q (-5 : Int32) I))) ∧ ((f_yX9_in τ x2.toInt64 (-9 : Int64) (5 : Int64) I) = 0 → Q (-3 : Int32) I)))
abbrev T_yX9_push : cr_T := fun vs I R K => ∃ (τ : Nat → Nat) (x1 : Int32) (x2 : Int32) (Q : Int32 → cr_I → Prop), R = cr_rf τ ∧ cr_tau τ ∧ vs = [.ref 200, .int x1, .int x2] ∧ t_yX9_push τ x1 x2 I Q ∧ ∀ r J, Q r J → K (some (.int r)) J (cr_rf τ)
theorem C_yX9_push : cr_C yX9_push cX9_push 3 (some .int) (cr_rm0 1 25) 247 247 T_yX9_push := by
  refine cr_C.of (by decide +kernel) (fun vs I R K hT => ?_) (fun Γ K h vs I R hT => ?_)
  · obtain ⟨τ, x1, x2, Q, rfl, hτ, rfl, hyp, hK⟩ := hT
    exact Nat.le_of_ble_eq_true rfl
  · obtain ⟨τ, x1, x2, Q, rfl, hτ, rfl, hyp, hK⟩ := hT
    unfold t_yX9_push at hyp
    show cr_V Γ 0 [.ref 200, .int x1, .int x2] [] I (cr_rf τ) 247
    refine cr_iload_n h (j := 1) rfl rfl dX9_push_0 ?_
    refine cr_i2l h dX9_push_1 ?_
    refine cr_lconst h (v := (0 : Int64)) (by decide) dX9_push_2 ?_
    refine cr_ldc2 h wc_X9_188 dX9_push_3 ?_
    refine cr_callS h C_yX9_in cZ_yX9_in wm_X9_154 ws_yX9_in (cr_rmS (by decide) (by decide)) (As := [.long x1.toInt64, .long (0 : Int64), .long (31 : Int64)]) rfl (Nat.le_of_ble_eq_true rfl) dX9_push_6 ⟨τ, x1.toInt64, (0 : Int64), (31 : Int64), rfl, hτ, rfl, ?_⟩
    show cr_V Γ 9 [.ref 200, .int x1, .int x2] [.int (f_yX9_in τ x1.toInt64 (0 : Int64) (31 : Int64) I)] I (cr_rf τ) 247
    refine cr_if_eq h (tgt := 26) (by decide) dX9_push_9 (fun c1 => ?_) (fun c1 => ?_)
    · have hyp := hyp.1 c1
      refine cr_bipush h (v := (-3 : Int32)) (by decide) dX9_push_26 ?_
      refine cr_iret h rfl rfl rfl dX9_push_28 ?_
      exact hK _ _ hyp
    · have hyp := hyp.2 c1
      refine cr_iload_n h (j := 2) rfl rfl dX9_push_12 ?_
      refine cr_i2l h dX9_push_13 ?_
      refine cr_ldc2 h wc_X9_252 dX9_push_14 ?_
      refine cr_ldc2 h wc_X9_158 dX9_push_17 ?_
      refine cr_callS h C_yX9_in cZ_yX9_in wm_X9_154 ws_yX9_in (cr_rmS (by decide) (by decide)) (As := [.long x2.toInt64, .long (-9 : Int64), .long (5 : Int64)]) rfl (Nat.le_of_ble_eq_true rfl) dX9_push_20 ⟨τ, x2.toInt64, (-9 : Int64), (5 : Int64), rfl, hτ, rfl, ?_⟩
      show cr_V Γ 23 [.ref 200, .int x1, .int x2] [.int (f_yX9_in τ x2.toInt64 (-9 : Int64) (5 : Int64) I)] I (cr_rf τ) 247
      refine cr_if_ne h (tgt := 29) (by decide) dX9_push_23 (fun c2 => ?_) (fun c2 => ?_)
      · have hyp := hyp.1 c2
        refine cr_aload_n h (j := 0) rfl rfl dX9_push_29 ?_
        refine cr_getI h (k := 18) cr_clsX9 (by decide) rfl rfl wf_X9_254 (by decide) rfl dX9_push_30 ?_
        refine cr_bipush h (v := (8 : Int32)) (by decide) dX9_push_33 ?_
        refine cr_icmp_ne h (tgt := 41) (by decide) dX9_push_35 (fun c3 => ?_) (fun c3 => ?_)
        · have hyp := hyp.1 c3
          refine cr_aload_n h (j := 0) rfl rfl dX9_push_41 ?_
          refine cr_getR h (k := 16) cr_clsX9 (by decide) rfl rfl wf_X9_56 (by decide) rfl rfl dX9_push_42 ?_
          refine cr_aload_n h (j := 0) rfl rfl dX9_push_45 ?_
          refine cr_getI h (k := 18) cr_clsX9 (by decide) rfl rfl wf_X9_254 (by decide) rfl dX9_push_46 ?_
          refine cr_iload_n h (j := 1) rfl rfl dX9_push_49 ?_
          refine cs_ist h (by decide) (by decide) rfl hyp.1 (q := (I 200 18).toNatClampNeg) rfl dX9_push_50 (fun J1 eJ1 => ?_)
          have hyp := hyp.2 J1 eJ1
          refine cr_aload_n h (j := 0) rfl rfl dX9_push_51 ?_
          refine cr_getR h (k := 17) cr_clsX9 (by decide) rfl rfl wf_X9_59 (by decide) rfl rfl dX9_push_52 ?_
          refine cr_aload_n h (j := 0) rfl rfl dX9_push_55 ?_
          refine cr_getI h (k := 18) cr_clsX9 (by decide) rfl rfl wf_X9_254 (by decide) rfl dX9_push_56 ?_
          refine cr_iload_n h (j := 2) rfl rfl dX9_push_59 ?_
          refine cs_ist h (by decide) (by decide) rfl hyp.1 (q := (J1 200 18).toNatClampNeg) rfl dX9_push_60 (fun J2 eJ2 => ?_)
          have hyp := hyp.2 J2 eJ2
          refine cr_aload_n h (j := 0) rfl rfl dX9_push_61 ?_
          refine cr_dup h rfl dX9_push_62 ?_
          refine cr_getI h (k := 18) cr_clsX9 (by decide) rfl rfl wf_X9_254 (by decide) rfl dX9_push_63 ?_
          refine cr_iconst h (v := (1 : Int32)) (by decide) dX9_push_66 ?_
          refine cr_iadd h dX9_push_67 ?_
          refine cs_put h (k := 18) cr_clsX9 (by decide) rfl rfl rfl rfl wf_X9_254 (by decide) (by decide) rfl dX9_push_68 (fun J3 eJ3 => ?_)
          have hyp := hyp J3 eJ3
          refine cr_aload_n h (j := 0) rfl rfl dX9_push_71 ?_
          refine cr_getI h (k := 18) cr_clsX9 (by decide) rfl rfl wf_X9_254 (by decide) rfl dX9_push_72 ?_
          refine cr_iret h rfl rfl rfl dX9_push_75 ?_
          exact hK _ _ hyp
        · have hyp := hyp.2 c3
          refine cr_bipush h (v := (-5 : Int32)) (by decide) dX9_push_38 ?_
          refine cr_iret h rfl rfl rfl dX9_push_40 ?_
          exact hK _ _ hyp
      · have hyp := hyp.2 c2
        refine cr_bipush h (v := (-3 : Int32)) (by decide) dX9_push_26 ?_
        refine cr_iret h rfl rfl rfl dX9_push_28 ?_
        exact hK _ _ hyp
def t_yX9_calm (τ : Nat → Nat) (I : cr_I) (Q : Int32 → cr_I → Prop) : Prop := ∀ v1 : Int32, v1 = (I 200 18) → (∀ J1 : cr_I, J1 = cr_up I 200 18 (0 : Int32) → Q v1 J1)
abbrev T_yX9_calm : cr_T := fun vs I R K => ∃ (τ : Nat → Nat) (Q : Int32 → cr_I → Prop), R = cr_rf τ ∧ cr_tau τ ∧ vs = [.ref 200] ∧ t_yX9_calm τ I Q ∧ ∀ r J, Q r J → K (some (.int r)) J (cr_rf τ)
theorem C_yX9_calm : cr_C yX9_calm cX9_calm 2 (some .int) (cr_rm0 0 0) 247 247 T_yX9_calm := by
  refine cr_C.of (by decide +kernel) (fun vs I R K hT => ?_) (fun Γ K h vs I R hT => ?_)
  · obtain ⟨τ, Q, rfl, hτ, rfl, hyp, hK⟩ := hT
    exact Nat.le_of_ble_eq_true rfl
  · obtain ⟨τ, Q, rfl, hτ, rfl, hyp, hK⟩ := hT
    unfold t_yX9_calm at hyp
    show cr_V Γ 0 [.ref 200, .null] [] I (cr_rf τ) 247
    refine cr_aload_n h (j := 0) rfl rfl dX9_calm_0 ?_
    refine cr_getI h (k := 18) cr_clsX9 (by decide) rfl rfl wf_X9_254 (by decide) rfl dX9_calm_1 ?_
    refine cs_i_n h 1 rfl (by decide) rfl dX9_calm_4 (fun v1 ev1 => ?_)
    have hyp := hyp v1 ev1
    show cr_V Γ 5 [.ref 200, .int v1] [] I (cr_rf τ) 247
    refine cr_aload_n h (j := 0) rfl rfl dX9_calm_5 ?_
    refine cr_iconst h (v := (0 : Int32)) (by decide) dX9_calm_6 ?_
    refine cs_put h (k := 18) cr_clsX9 (by decide) rfl rfl rfl rfl wf_X9_254 (by decide) (by decide) rfl dX9_calm_7 (fun J1 eJ1 => ?_)
    have hyp := hyp J1 eJ1
    refine cr_iload_n h (j := 1) rfl rfl dX9_calm_10 ?_
    refine cr_iret h rfl rfl rfl dX9_calm_11 ?_
    exact hK _ _ hyp
def t_yX9_lose (τ : Nat → Nat) (x1 : Int32) (I : cr_I) (Q : Int32 → cr_I → Prop) : Prop := ∀ J1 : cr_I, J1 = cr_up I 200 19 x1 → Q (1 : Int32) J1
abbrev T_yX9_lose : cr_T := fun vs I R K => ∃ (τ : Nat → Nat) (x1 : Int32) (Q : Int32 → cr_I → Prop), R = cr_rf τ ∧ cr_tau τ ∧ vs = [.ref 200, .int x1] ∧ t_yX9_lose τ x1 I Q ∧ ∀ r J, Q r J → K (some (.int r)) J (cr_rf τ)
theorem C_yX9_lose : cr_C yX9_lose cX9_lose 2 (some .int) (cr_rm0 0 0) 247 247 T_yX9_lose := by
  refine cr_C.of (by decide +kernel) (fun vs I R K hT => ?_) (fun Γ K h vs I R hT => ?_)
  · obtain ⟨τ, x1, Q, rfl, hτ, rfl, hyp, hK⟩ := hT
    exact Nat.le_of_ble_eq_true rfl
  · obtain ⟨τ, x1, Q, rfl, hτ, rfl, hyp, hK⟩ := hT
    unfold t_yX9_lose at hyp
    show cr_V Γ 0 [.ref 200, .int x1] [] I (cr_rf τ) 247
    refine cr_aload_n h (j := 0) rfl rfl dX9_lose_0 ?_
    refine cr_iload_n h (j := 1) rfl rfl dX9_lose_1 ?_
    refine cs_put h (k := 19) cr_clsX9 (by decide) rfl rfl rfl rfl wf_X9_257 (by decide) (by decide) rfl dX9_lose_2 (fun J1 eJ1 => ?_)
    have hyp := hyp J1 eJ1
    refine cr_iconst h (v := (1 : Int32)) (by decide) dX9_lose_5 ?_
    refine cr_iret h rfl rfl rfl dX9_lose_6 ?_
    exact hK _ _ hyp
def t_yX9_hill (τ : Nat → Nat) (x1 : Int32) (x2 : Int32) (x3 : Int32) (x4 : Int32) (I : cr_I) (Q : Int32 → cr_I → Prop) : Prop := ((f_yX9_in τ x1.toInt64 (0 : Int64) (2000 : Int64) I) = 0 → Q (-3 : Int32) I) ∧ (¬ (f_yX9_in τ x1.toInt64 (0 : Int64) (2000 : Int64) I) = 0 → (((f_yX9_in τ x2.toInt64 x1.toInt64 (2000 : Int64) I) = 0 → Q (-3 : Int32) I) ∧ (¬ (f_yX9_in τ x2.toInt64 x1.toInt64 (2000 : Int64) I) = 0 → (((f_yX9_in τ x3.toInt64 (0 : Int64) (40 : Int64) I) = 0 → Q (-3 : Int32) I) ∧ (¬ (f_yX9_in τ x3.toInt64 (0 : Int64) (40 : Int64) I) = 0 → ((¬ (f_yX9_in τ x4.toInt64 (0 : Int64) (40 : Int64) I) = 0 → ((¬ (I 200 24) = (2 : Int32) → ((0 ≤ (I 200 24).toInt ∧ (I 200 24).toInt < 2) ∧ (∀ J1 : cr_I, J1 = cr_up I 217 ((I 200 24).toNatClampNeg) x1 → ((0 ≤ (J1 200 24).toInt ∧ (J1 200 24).toInt < 2) ∧ (∀ J2 : cr_I, J2 = cr_up J1 218 ((J1 200 24).toNatClampNeg) x2 → ((0 ≤ (J2 200 24).toInt ∧ (J2 200 24).toInt < 2) ∧ (∀ J3 : cr_I, J3 = cr_up J2 219 ((J2 200 24).toNatClampNeg) x3 → ((0 ≤ (J3 200 24).toInt ∧ (J3 200 24).toInt < 2) ∧ (∀ J4 : cr_I, J4 = cr_up J3 220 ((J3 200 24).toNatClampNeg) x4 → (∀ J5 : cr_I, J5 = cr_up J4 200 24 ((J4 200 24) + (1 : Int32)) → Q (J5 200 24) J5)))))))))) ∧ ((I 200 24) = (2 : Int32) → Q (-5 : Int32) I))) ∧ ((f_yX9_in τ x4.toInt64 (0 : Int64) (40 : Int64) I) = 0 → Q (-3 : Int32) I)))))))
abbrev T_yX9_hill : cr_T := fun vs I R K => ∃ (τ : Nat → Nat) (x1 : Int32) (x2 : Int32) (x3 : Int32) (x4 : Int32) (Q : Int32 → cr_I → Prop), R = cr_rf τ ∧ cr_tau τ ∧ vs = [.ref 200, .int x1, .int x2, .int x3, .int x4] ∧ t_yX9_hill τ x1 x2 x3 x4 I Q ∧ ∀ r J, Q r J → K (some (.int r)) J (cr_rf τ)
theorem C_yX9_hill : cr_C yX9_hill cX9_hill 5 (some .int) (cr_rm0 1 25) 247 247 T_yX9_hill := by
  refine cr_C.of (by decide +kernel) (fun vs I R K hT => ?_) (fun Γ K h vs I R hT => ?_)
  · obtain ⟨τ, x1, x2, x3, x4, Q, rfl, hτ, rfl, hyp, hK⟩ := hT
    exact Nat.le_of_ble_eq_true rfl
  · obtain ⟨τ, x1, x2, x3, x4, Q, rfl, hτ, rfl, hyp, hK⟩ := hT
    unfold t_yX9_hill at hyp
    show cr_V Γ 0 [.ref 200, .int x1, .int x2, .int x3, .int x4] [] I (cr_rf τ) 247
    refine cr_iload_n h (j := 1) rfl rfl dX9_hill_0 ?_
    refine cr_i2l h dX9_hill_1 ?_
    refine cr_lconst h (v := (0 : Int64)) (by decide) dX9_hill_2 ?_
    refine cr_ldc2 h wc_X9_260 dX9_hill_3 ?_
    refine cr_callS h C_yX9_in cZ_yX9_in wm_X9_154 ws_yX9_in (cr_rmS (by decide) (by decide)) (As := [.long x1.toInt64, .long (0 : Int64), .long (2000 : Int64)]) rfl (Nat.le_of_ble_eq_true rfl) dX9_hill_6 ⟨τ, x1.toInt64, (0 : Int64), (2000 : Int64), rfl, hτ, rfl, ?_⟩
    show cr_V Γ 9 [.ref 200, .int x1, .int x2, .int x3, .int x4] [.int (f_yX9_in τ x1.toInt64 (0 : Int64) (2000 : Int64) I)] I (cr_rf τ) 247
    refine cr_if_eq h (tgt := 50) (by decide) dX9_hill_9 (fun c1 => ?_) (fun c1 => ?_)
    · have hyp := hyp.1 c1
      refine cr_bipush h (v := (-3 : Int32)) (by decide) dX9_hill_50 ?_
      refine cr_iret h rfl rfl rfl dX9_hill_52 ?_
      exact hK _ _ hyp
    · have hyp := hyp.2 c1
      refine cr_iload_n h (j := 2) rfl rfl dX9_hill_12 ?_
      refine cr_i2l h dX9_hill_13 ?_
      refine cr_iload_n h (j := 1) rfl rfl dX9_hill_14 ?_
      refine cr_i2l h dX9_hill_15 ?_
      refine cr_ldc2 h wc_X9_260 dX9_hill_16 ?_
      refine cr_callS h C_yX9_in cZ_yX9_in wm_X9_154 ws_yX9_in (cr_rmS (by decide) (by decide)) (As := [.long x2.toInt64, .long x1.toInt64, .long (2000 : Int64)]) rfl (Nat.le_of_ble_eq_true rfl) dX9_hill_19 ⟨τ, x2.toInt64, x1.toInt64, (2000 : Int64), rfl, hτ, rfl, ?_⟩
      show cr_V Γ 22 [.ref 200, .int x1, .int x2, .int x3, .int x4] [.int (f_yX9_in τ x2.toInt64 x1.toInt64 (2000 : Int64) I)] I (cr_rf τ) 247
      refine cr_if_eq h (tgt := 50) (by decide) dX9_hill_22 (fun c2 => ?_) (fun c2 => ?_)
      · have hyp := hyp.1 c2
        refine cr_bipush h (v := (-3 : Int32)) (by decide) dX9_hill_50 ?_
        refine cr_iret h rfl rfl rfl dX9_hill_52 ?_
        exact hK _ _ hyp
      · have hyp := hyp.2 c2
        refine cr_iload_n h (j := 3) rfl rfl dX9_hill_25 ?_
        refine cr_i2l h dX9_hill_26 ?_
        refine cr_lconst h (v := (0 : Int64)) (by decide) dX9_hill_27 ?_
        refine cr_ldc2 h wc_X9_164 dX9_hill_28 ?_
        refine cr_callS h C_yX9_in cZ_yX9_in wm_X9_154 ws_yX9_in (cr_rmS (by decide) (by decide)) (As := [.long x3.toInt64, .long (0 : Int64), .long (40 : Int64)]) rfl (Nat.le_of_ble_eq_true rfl) dX9_hill_31 ⟨τ, x3.toInt64, (0 : Int64), (40 : Int64), rfl, hτ, rfl, ?_⟩
        show cr_V Γ 34 [.ref 200, .int x1, .int x2, .int x3, .int x4] [.int (f_yX9_in τ x3.toInt64 (0 : Int64) (40 : Int64) I)] I (cr_rf τ) 247
        refine cr_if_eq h (tgt := 50) (by decide) dX9_hill_34 (fun c3 => ?_) (fun c3 => ?_)
        · have hyp := hyp.1 c3
          refine cr_bipush h (v := (-3 : Int32)) (by decide) dX9_hill_50 ?_
          refine cr_iret h rfl rfl rfl dX9_hill_52 ?_
          exact hK _ _ hyp
        · have hyp := hyp.2 c3
          refine cr_iload h rfl dX9_hill_37 ?_
          refine cr_i2l h dX9_hill_39 ?_
          refine cr_lconst h (v := (0 : Int64)) (by decide) dX9_hill_40 ?_
          refine cr_ldc2 h wc_X9_164 dX9_hill_41 ?_
          refine cr_callS h C_yX9_in cZ_yX9_in wm_X9_154 ws_yX9_in (cr_rmS (by decide) (by decide)) (As := [.long x4.toInt64, .long (0 : Int64), .long (40 : Int64)]) rfl (Nat.le_of_ble_eq_true rfl) dX9_hill_44 ⟨τ, x4.toInt64, (0 : Int64), (40 : Int64), rfl, hτ, rfl, ?_⟩
          show cr_V Γ 47 [.ref 200, .int x1, .int x2, .int x3, .int x4] [.int (f_yX9_in τ x4.toInt64 (0 : Int64) (40 : Int64) I)] I (cr_rf τ) 247
          refine cr_if_ne h (tgt := 53) (by decide) dX9_hill_47 (fun c4 => ?_) (fun c4 => ?_)
          · have hyp := hyp.1 c4
            refine cr_aload_n h (j := 0) rfl rfl dX9_hill_53 ?_
            refine cr_getI h (k := 24) cr_clsX9 (by decide) rfl rfl wf_X9_262 (by decide) rfl dX9_hill_54 ?_
            refine cr_iconst h (v := (2 : Int32)) (by decide) dX9_hill_57 ?_
            refine cr_icmp_ne h (tgt := 64) (by decide) dX9_hill_58 (fun c5 => ?_) (fun c5 => ?_)
            · have hyp := hyp.1 c5
              refine cr_aload_n h (j := 0) rfl rfl dX9_hill_64 ?_
              refine cr_getR h (k := 20) cr_clsX9 (by decide) rfl rfl wf_X9_62 (by decide) rfl rfl dX9_hill_65 ?_
              refine cr_aload_n h (j := 0) rfl rfl dX9_hill_68 ?_
              refine cr_getI h (k := 24) cr_clsX9 (by decide) rfl rfl wf_X9_262 (by decide) rfl dX9_hill_69 ?_
              refine cr_iload_n h (j := 1) rfl rfl dX9_hill_72 ?_
              refine cs_ist h (by decide) (by decide) rfl hyp.1 (q := (I 200 24).toNatClampNeg) rfl dX9_hill_73 (fun J1 eJ1 => ?_)
              have hyp := hyp.2 J1 eJ1
              refine cr_aload_n h (j := 0) rfl rfl dX9_hill_74 ?_
              refine cr_getR h (k := 21) cr_clsX9 (by decide) rfl rfl wf_X9_65 (by decide) rfl rfl dX9_hill_75 ?_
              refine cr_aload_n h (j := 0) rfl rfl dX9_hill_78 ?_
              refine cr_getI h (k := 24) cr_clsX9 (by decide) rfl rfl wf_X9_262 (by decide) rfl dX9_hill_79 ?_
              refine cr_iload_n h (j := 2) rfl rfl dX9_hill_82 ?_
              refine cs_ist h (by decide) (by decide) rfl hyp.1 (q := (J1 200 24).toNatClampNeg) rfl dX9_hill_83 (fun J2 eJ2 => ?_)
              have hyp := hyp.2 J2 eJ2
              refine cr_aload_n h (j := 0) rfl rfl dX9_hill_84 ?_
              refine cr_getR h (k := 22) cr_clsX9 (by decide) rfl rfl wf_X9_68 (by decide) rfl rfl dX9_hill_85 ?_
              refine cr_aload_n h (j := 0) rfl rfl dX9_hill_88 ?_
              refine cr_getI h (k := 24) cr_clsX9 (by decide) rfl rfl wf_X9_262 (by decide) rfl dX9_hill_89 ?_
              refine cr_iload_n h (j := 3) rfl rfl dX9_hill_92 ?_
              refine cs_ist h (by decide) (by decide) rfl hyp.1 (q := (J2 200 24).toNatClampNeg) rfl dX9_hill_93 (fun J3 eJ3 => ?_)
              have hyp := hyp.2 J3 eJ3
              refine cr_aload_n h (j := 0) rfl rfl dX9_hill_94 ?_
              refine cr_getR h (k := 23) cr_clsX9 (by decide) rfl rfl wf_X9_71 (by decide) rfl rfl dX9_hill_95 ?_
              refine cr_aload_n h (j := 0) rfl rfl dX9_hill_98 ?_
              refine cr_getI h (k := 24) cr_clsX9 (by decide) rfl rfl wf_X9_262 (by decide) rfl dX9_hill_99 ?_
              refine cr_iload h rfl dX9_hill_102 ?_
              refine cs_ist h (by decide) (by decide) rfl hyp.1 (q := (J3 200 24).toNatClampNeg) rfl dX9_hill_104 (fun J4 eJ4 => ?_)
              have hyp := hyp.2 J4 eJ4
              refine cr_aload_n h (j := 0) rfl rfl dX9_hill_105 ?_
              refine cr_dup h rfl dX9_hill_106 ?_
              refine cr_getI h (k := 24) cr_clsX9 (by decide) rfl rfl wf_X9_262 (by decide) rfl dX9_hill_107 ?_
              refine cr_iconst h (v := (1 : Int32)) (by decide) dX9_hill_110 ?_
              refine cr_iadd h dX9_hill_111 ?_
              refine cs_put h (k := 24) cr_clsX9 (by decide) rfl rfl rfl rfl wf_X9_262 (by decide) (by decide) rfl dX9_hill_112 (fun J5 eJ5 => ?_)
              have hyp := hyp J5 eJ5
              refine cr_aload_n h (j := 0) rfl rfl dX9_hill_115 ?_
              refine cr_getI h (k := 24) cr_clsX9 (by decide) rfl rfl wf_X9_262 (by decide) rfl dX9_hill_116 ?_
              refine cr_iret h rfl rfl rfl dX9_hill_119 ?_
              exact hK _ _ hyp
            · have hyp := hyp.2 c5
              refine cr_bipush h (v := (-5 : Int32)) (by decide) dX9_hill_61 ?_
              refine cr_iret h rfl rfl rfl dX9_hill_63 ?_
              exact hK _ _ hyp
          · have hyp := hyp.2 c4
            refine cr_bipush h (v := (-3 : Int32)) (by decide) dX9_hill_50 ?_
            refine cr_iret h rfl rfl rfl dX9_hill_52 ?_
            exact hK _ _ hyp
def t_yX9_stranger (τ : Nat → Nat) (x1 : Int32) (x2 : Int32) (x3 : Int32) (x4 : Int32) (I : cr_I) (Q : Int32 → cr_I → Prop) : Prop := ((f_yX9_isLorry τ x1 I) = 0 → Q (-2 : Int32) I) ∧ (¬ (f_yX9_isLorry τ x1 I) = 0 → ((¬ x1 = 0 → (((f_yX9_in τ x2.toInt64 (0 : Int64) (31 : Int64) I) = 0 → Q (-3 : Int32) I) ∧ (¬ (f_yX9_in τ x2.toInt64 (0 : Int64) (31 : Int64) I) = 0 → (((f_yX9_in τ x3.toInt64 x2.toInt64 (31 : Int64) I) = 0 → Q (-3 : Int32) I) ∧ (¬ (f_yX9_in τ x3.toInt64 x2.toInt64 (31 : Int64) I) = 0 → ((¬ (f_yX9_in τ x4.toInt64 (0 : Int64) (40 : Int64) I) = 0 → (∀ J1 : cr_I, J1 = cr_up I 200 25 x1 → (∀ J2 : cr_I, J2 = cr_up J1 200 26 x2 → (∀ J3 : cr_I, J3 = cr_up J2 200 27 x3 → (∀ J4 : cr_I, J4 = cr_up J3 200 28 x4 → Q (1 : Int32) J4))))) ∧ ((f_yX9_in τ x4.toInt64 (0 : Int64) (40 : Int64) I) = 0 → Q (-3 : Int32) I))))))) ∧ (x1 = 0 → Q (-2 : Int32) I)))
abbrev T_yX9_stranger : cr_T := fun vs I R K => ∃ (τ : Nat → Nat) (x1 : Int32) (x2 : Int32) (x3 : Int32) (x4 : Int32) (Q : Int32 → cr_I → Prop), R = cr_rf τ ∧ cr_tau τ ∧ vs = [.ref 200, .int x1, .int x2, .int x3, .int x4] ∧ t_yX9_stranger τ x1 x2 x3 x4 I Q ∧ ∀ r J, Q r J → K (some (.int r)) J (cr_rf τ)
theorem C_yX9_stranger : cr_C yX9_stranger cX9_stranger 5 (some .int) (cr_rm0 2 46) 247 247 T_yX9_stranger := by
  refine cr_C.of (by decide +kernel) (fun vs I R K hT => ?_) (fun Γ K h vs I R hT => ?_)
  · obtain ⟨τ, x1, x2, x3, x4, Q, rfl, hτ, rfl, hyp, hK⟩ := hT
    exact Nat.le_of_ble_eq_true rfl
  · obtain ⟨τ, x1, x2, x3, x4, Q, rfl, hτ, rfl, hyp, hK⟩ := hT
    unfold t_yX9_stranger at hyp
    show cr_V Γ 0 [.ref 200, .int x1, .int x2, .int x3, .int x4] [] I (cr_rf τ) 247
    refine cr_aload_n h (j := 0) rfl rfl dX9_stranger_0 ?_
    refine cr_iload_n h (j := 1) rfl rfl dX9_stranger_1 ?_
    refine cr_callV h (c0 := 9) (T0 := TX9) C_yX9_isLorry cZ_yX9_isLorry wm_X9_265 wv_yX9_isLorry we_yX9_isLorry (by decide) rfl rfl (cr_rmS (by decide) (by decide)) (As := [.int x1]) rfl (Nat.le_of_ble_eq_true rfl) dX9_stranger_2 ⟨τ, x1, rfl, hτ, rfl, ?_⟩
    show cr_V Γ 5 [.ref 200, .int x1, .int x2, .int x3, .int x4] [.int (f_yX9_isLorry τ x1 I)] I (cr_rf τ) 247
    refine cr_if_eq h (tgt := 12) (by decide) dX9_stranger_5 (fun c1 => ?_) (fun c1 => ?_)
    · have hyp := hyp.1 c1
      refine cr_bipush h (v := (-2 : Int32)) (by decide) dX9_stranger_12 ?_
      refine cr_iret h rfl rfl rfl dX9_stranger_14 ?_
      exact hK _ _ hyp
    · have hyp := hyp.2 c1
      refine cr_iload_n h (j := 1) rfl rfl dX9_stranger_8 ?_
      refine cr_if_ne h (tgt := 15) (by decide) dX9_stranger_9 (fun c2 => ?_) (fun c2 => ?_)
      · have hyp := hyp.1 c2
        refine cr_iload_n h (j := 2) rfl rfl dX9_stranger_15 ?_
        refine cr_i2l h dX9_stranger_16 ?_
        refine cr_lconst h (v := (0 : Int64)) (by decide) dX9_stranger_17 ?_
        refine cr_ldc2 h wc_X9_188 dX9_stranger_18 ?_
        refine cr_callS h C_yX9_in cZ_yX9_in wm_X9_154 ws_yX9_in (cr_rmS (by decide) (by decide)) (As := [.long x2.toInt64, .long (0 : Int64), .long (31 : Int64)]) rfl (Nat.le_of_ble_eq_true rfl) dX9_stranger_21 ⟨τ, x2.toInt64, (0 : Int64), (31 : Int64), rfl, hτ, rfl, ?_⟩
        show cr_V Γ 24 [.ref 200, .int x1, .int x2, .int x3, .int x4] [.int (f_yX9_in τ x2.toInt64 (0 : Int64) (31 : Int64) I)] I (cr_rf τ) 247
        refine cr_if_eq h (tgt := 53) (by decide) dX9_stranger_24 (fun c3 => ?_) (fun c3 => ?_)
        · have hyp := hyp.1 c3
          refine cr_bipush h (v := (-3 : Int32)) (by decide) dX9_stranger_53 ?_
          refine cr_iret h rfl rfl rfl dX9_stranger_55 ?_
          exact hK _ _ hyp
        · have hyp := hyp.2 c3
          refine cr_iload_n h (j := 3) rfl rfl dX9_stranger_27 ?_
          refine cr_i2l h dX9_stranger_28 ?_
          refine cr_iload_n h (j := 2) rfl rfl dX9_stranger_29 ?_
          refine cr_i2l h dX9_stranger_30 ?_
          refine cr_ldc2 h wc_X9_188 dX9_stranger_31 ?_
          refine cr_callS h C_yX9_in cZ_yX9_in wm_X9_154 ws_yX9_in (cr_rmS (by decide) (by decide)) (As := [.long x3.toInt64, .long x2.toInt64, .long (31 : Int64)]) rfl (Nat.le_of_ble_eq_true rfl) dX9_stranger_34 ⟨τ, x3.toInt64, x2.toInt64, (31 : Int64), rfl, hτ, rfl, ?_⟩
          show cr_V Γ 37 [.ref 200, .int x1, .int x2, .int x3, .int x4] [.int (f_yX9_in τ x3.toInt64 x2.toInt64 (31 : Int64) I)] I (cr_rf τ) 247
          refine cr_if_eq h (tgt := 53) (by decide) dX9_stranger_37 (fun c4 => ?_) (fun c4 => ?_)
          · have hyp := hyp.1 c4
            refine cr_bipush h (v := (-3 : Int32)) (by decide) dX9_stranger_53 ?_
            refine cr_iret h rfl rfl rfl dX9_stranger_55 ?_
            exact hK _ _ hyp
          · have hyp := hyp.2 c4
            refine cr_iload h rfl dX9_stranger_40 ?_
            refine cr_i2l h dX9_stranger_42 ?_
            refine cr_lconst h (v := (0 : Int64)) (by decide) dX9_stranger_43 ?_
            refine cr_ldc2 h wc_X9_164 dX9_stranger_44 ?_
            refine cr_callS h C_yX9_in cZ_yX9_in wm_X9_154 ws_yX9_in (cr_rmS (by decide) (by decide)) (As := [.long x4.toInt64, .long (0 : Int64), .long (40 : Int64)]) rfl (Nat.le_of_ble_eq_true rfl) dX9_stranger_47 ⟨τ, x4.toInt64, (0 : Int64), (40 : Int64), rfl, hτ, rfl, ?_⟩
            show cr_V Γ 50 [.ref 200, .int x1, .int x2, .int x3, .int x4] [.int (f_yX9_in τ x4.toInt64 (0 : Int64) (40 : Int64) I)] I (cr_rf τ) 247
            refine cr_if_ne h (tgt := 56) (by decide) dX9_stranger_50 (fun c5 => ?_) (fun c5 => ?_)
            · have hyp := hyp.1 c5
              refine cr_aload_n h (j := 0) rfl rfl dX9_stranger_56 ?_
              refine cr_iload_n h (j := 1) rfl rfl dX9_stranger_57 ?_
              refine cs_put h (k := 25) cr_clsX9 (by decide) rfl rfl rfl rfl wf_X9_268 (by decide) (by decide) rfl dX9_stranger_58 (fun J1 eJ1 => ?_)
              have hyp := hyp J1 eJ1
              refine cr_aload_n h (j := 0) rfl rfl dX9_stranger_61 ?_
              refine cr_iload_n h (j := 2) rfl rfl dX9_stranger_62 ?_
              refine cs_put h (k := 26) cr_clsX9 (by decide) rfl rfl rfl rfl wf_X9_271 (by decide) (by decide) rfl dX9_stranger_63 (fun J2 eJ2 => ?_)
              have hyp := hyp J2 eJ2
              refine cr_aload_n h (j := 0) rfl rfl dX9_stranger_66 ?_
              refine cr_iload_n h (j := 3) rfl rfl dX9_stranger_67 ?_
              refine cs_put h (k := 27) cr_clsX9 (by decide) rfl rfl rfl rfl wf_X9_274 (by decide) (by decide) rfl dX9_stranger_68 (fun J3 eJ3 => ?_)
              have hyp := hyp J3 eJ3
              refine cr_aload_n h (j := 0) rfl rfl dX9_stranger_71 ?_
              refine cr_iload h rfl dX9_stranger_72 ?_
              refine cs_put h (k := 28) cr_clsX9 (by decide) rfl rfl rfl rfl wf_X9_277 (by decide) (by decide) rfl dX9_stranger_74 (fun J4 eJ4 => ?_)
              have hyp := hyp J4 eJ4
              refine cr_iconst h (v := (1 : Int32)) (by decide) dX9_stranger_77 ?_
              refine cr_iret h rfl rfl rfl dX9_stranger_78 ?_
              exact hK _ _ hyp
            · have hyp := hyp.2 c5
              refine cr_bipush h (v := (-3 : Int32)) (by decide) dX9_stranger_53 ?_
              refine cr_iret h rfl rfl rfl dX9_stranger_55 ?_
              exact hK _ _ hyp
      · have hyp := hyp.2 c2
        refine cr_bipush h (v := (-2 : Int32)) (by decide) dX9_stranger_12 ?_
        refine cr_iret h rfl rfl rfl dX9_stranger_14 ?_
        exact hK _ _ hyp
def t_yX9_journey (τ : Nat → Nat) (x1 : Int32) (x2 : Int32) (x3 : Int32) (x4 : Int32) (x5 : Int32) (I : cr_I) (Q : Int32 → cr_I → Prop) : Prop := ((f_yX9_in τ x1.toInt64 (0 : Int64) (9 : Int64) I) = 0 → Q (-2 : Int32) I) ∧ (¬ (f_yX9_in τ x1.toInt64 (0 : Int64) (9 : Int64) I) = 0 → (((f_yX9_in τ x2.toInt64 ((x1 + (1 : Int32)).toInt64) (9 : Int64) I) = 0 → Q (-2 : Int32) I) ∧ (¬ (f_yX9_in τ x2.toInt64 ((x1 + (1 : Int32)).toInt64) (9 : Int64) I) = 0 → ((¬ (f_yX9_isMake τ x5 I) = 0 → (((f_yX9_in τ x3.toInt64 (0 : Int64) (23 : Int64) I) = 0 → Q (-3 : Int32) I) ∧ (¬ (f_yX9_in τ x3.toInt64 (0 : Int64) (23 : Int64) I) = 0 → (((f_yX9_in τ x4.toInt64 x3.toInt64 (23 : Int64) I) = 0 → Q (-3 : Int32) I) ∧ (¬ (f_yX9_in τ x4.toInt64 x3.toInt64 (23 : Int64) I) = 0 → (((x4 - x3) ≤ (5 : Int32) → ((¬ (I 200 34) = (5 : Int32) → ((0 ≤ (I 200 34).toInt ∧ (I 200 34).toInt < 5) ∧ (∀ J1 : cr_I, J1 = cr_up I 221 ((I 200 34).toNatClampNeg) x1 → ((0 ≤ (J1 200 34).toInt ∧ (J1 200 34).toInt < 5) ∧ (∀ J2 : cr_I, J2 = cr_up J1 222 ((J1 200 34).toNatClampNeg) x2 → ((0 ≤ (J2 200 34).toInt ∧ (J2 200 34).toInt < 5) ∧ (∀ J3 : cr_I, J3 = cr_up J2 223 ((J2 200 34).toNatClampNeg) x3 → ((0 ≤ (J3 200 34).toInt ∧ (J3 200 34).toInt < 5) ∧ (∀ J4 : cr_I, J4 = cr_up J3 224 ((J3 200 34).toNatClampNeg) x4 → ((0 ≤ (J4 200 34).toInt ∧ (J4 200 34).toInt < 5) ∧ (∀ J5 : cr_I, J5 = cr_up J4 225 ((J4 200 34).toNatClampNeg) x5 → (∀ J6 : cr_I, J6 = cr_up J5 200 34 ((J5 200 34) + (1 : Int32)) → Q ((J6 200 34) - (1 : Int32)) J6)))))))))))) ∧ ((I 200 34) = (5 : Int32) → Q (-5 : Int32) I))) ∧ (¬ (x4 - x3) ≤ (5 : Int32) → Q (-3 : Int32) I))))))) ∧ ((f_yX9_isMake τ x5 I) = 0 → Q (-2 : Int32) I)))))
abbrev T_yX9_journey : cr_T := fun vs I R K => ∃ (τ : Nat → Nat) (x1 : Int32) (x2 : Int32) (x3 : Int32) (x4 : Int32) (x5 : Int32) (Q : Int32 → cr_I → Prop), R = cr_rf τ ∧ cr_tau τ ∧ vs = [.ref 200, .int x1, .int x2, .int x3, .int x4, .int x5] ∧ t_yX9_journey τ x1 x2 x3 x4 x5 I Q ∧ ∀ r J, Q r J → K (some (.int r)) J (cr_rf τ)
theorem C_yX9_journey : cr_C yX9_journey cX9_journey 6 (some .int) (cr_rm0 2 45) 247 247 T_yX9_journey := by
  refine cr_C.of (by decide +kernel) (fun vs I R K hT => ?_) (fun Γ K h vs I R hT => ?_)
  · obtain ⟨τ, x1, x2, x3, x4, x5, Q, rfl, hτ, rfl, hyp, hK⟩ := hT
    exact Nat.le_of_ble_eq_true rfl
  · obtain ⟨τ, x1, x2, x3, x4, x5, Q, rfl, hτ, rfl, hyp, hK⟩ := hT
    unfold t_yX9_journey at hyp
    show cr_V Γ 0 [.ref 200, .int x1, .int x2, .int x3, .int x4, .int x5] [] I (cr_rf τ) 247
    refine cr_iload_n h (j := 1) rfl rfl dX9_journey_0 ?_
    refine cr_i2l h dX9_journey_1 ?_
    refine cr_lconst h (v := (0 : Int64)) (by decide) dX9_journey_2 ?_
    refine cr_ldc2 h wc_X9_166 dX9_journey_3 ?_
    refine cr_callS h C_yX9_in cZ_yX9_in wm_X9_154 ws_yX9_in (cr_rmS (by decide) (by decide)) (As := [.long x1.toInt64, .long (0 : Int64), .long (9 : Int64)]) rfl (Nat.le_of_ble_eq_true rfl) dX9_journey_6 ⟨τ, x1.toInt64, (0 : Int64), (9 : Int64), rfl, hτ, rfl, ?_⟩
    show cr_V Γ 9 [.ref 200, .int x1, .int x2, .int x3, .int x4, .int x5] [.int (f_yX9_in τ x1.toInt64 (0 : Int64) (9 : Int64) I)] I (cr_rf τ) 247
    refine cr_if_eq h (tgt := 35) (by decide) dX9_journey_9 (fun c1 => ?_) (fun c1 => ?_)
    · have hyp := hyp.1 c1
      refine cr_bipush h (v := (-2 : Int32)) (by decide) dX9_journey_35 ?_
      refine cr_iret h rfl rfl rfl dX9_journey_37 ?_
      exact hK _ _ hyp
    · have hyp := hyp.2 c1
      refine cr_iload_n h (j := 2) rfl rfl dX9_journey_12 ?_
      refine cr_i2l h dX9_journey_13 ?_
      refine cr_iload_n h (j := 1) rfl rfl dX9_journey_14 ?_
      refine cr_iconst h (v := (1 : Int32)) (by decide) dX9_journey_15 ?_
      refine cr_iadd h dX9_journey_16 ?_
      refine cr_i2l h dX9_journey_17 ?_
      refine cr_ldc2 h wc_X9_166 dX9_journey_18 ?_
      refine cr_callS h C_yX9_in cZ_yX9_in wm_X9_154 ws_yX9_in (cr_rmS (by decide) (by decide)) (As := [.long x2.toInt64, .long (x1 + (1 : Int32)).toInt64, .long (9 : Int64)]) rfl (Nat.le_of_ble_eq_true rfl) dX9_journey_21 ⟨τ, x2.toInt64, (x1 + (1 : Int32)).toInt64, (9 : Int64), rfl, hτ, rfl, ?_⟩
      show cr_V Γ 24 [.ref 200, .int x1, .int x2, .int x3, .int x4, .int x5] [.int (f_yX9_in τ x2.toInt64 ((x1 + (1 : Int32)).toInt64) (9 : Int64) I)] I (cr_rf τ) 247
      refine cr_if_eq h (tgt := 35) (by decide) dX9_journey_24 (fun c2 => ?_) (fun c2 => ?_)
      · have hyp := hyp.1 c2
        refine cr_bipush h (v := (-2 : Int32)) (by decide) dX9_journey_35 ?_
        refine cr_iret h rfl rfl rfl dX9_journey_37 ?_
        exact hK _ _ hyp
      · have hyp := hyp.2 c2
        refine cr_iload h rfl dX9_journey_27 ?_
        refine cr_callS h C_yX9_isMake cZ_yX9_isMake wm_X9_160 ws_yX9_isMake (cr_rmS (by decide) (by decide)) (As := [.int x5]) rfl (Nat.le_of_ble_eq_true rfl) dX9_journey_29 ⟨τ, x5, rfl, hτ, rfl, ?_⟩
        show cr_V Γ 32 [.ref 200, .int x1, .int x2, .int x3, .int x4, .int x5] [.int (f_yX9_isMake τ x5 I)] I (cr_rf τ) 247
        refine cr_if_ne h (tgt := 38) (by decide) dX9_journey_32 (fun c3 => ?_) (fun c3 => ?_)
        · have hyp := hyp.1 c3
          refine cr_iload_n h (j := 3) rfl rfl dX9_journey_38 ?_
          refine cr_i2l h dX9_journey_39 ?_
          refine cr_lconst h (v := (0 : Int64)) (by decide) dX9_journey_40 ?_
          refine cr_ldc2 h wc_X9_338 dX9_journey_41 ?_
          refine cr_callS h C_yX9_in cZ_yX9_in wm_X9_154 ws_yX9_in (cr_rmS (by decide) (by decide)) (As := [.long x3.toInt64, .long (0 : Int64), .long (23 : Int64)]) rfl (Nat.le_of_ble_eq_true rfl) dX9_journey_44 ⟨τ, x3.toInt64, (0 : Int64), (23 : Int64), rfl, hτ, rfl, ?_⟩
          show cr_V Γ 47 [.ref 200, .int x1, .int x2, .int x3, .int x4, .int x5] [.int (f_yX9_in τ x3.toInt64 (0 : Int64) (23 : Int64) I)] I (cr_rf τ) 247
          refine cr_if_eq h (tgt := 72) (by decide) dX9_journey_47 (fun c4 => ?_) (fun c4 => ?_)
          · have hyp := hyp.1 c4
            refine cr_bipush h (v := (-3 : Int32)) (by decide) dX9_journey_72 ?_
            refine cr_iret h rfl rfl rfl dX9_journey_74 ?_
            exact hK _ _ hyp
          · have hyp := hyp.2 c4
            refine cr_iload h rfl dX9_journey_50 ?_
            refine cr_i2l h dX9_journey_52 ?_
            refine cr_iload_n h (j := 3) rfl rfl dX9_journey_53 ?_
            refine cr_i2l h dX9_journey_54 ?_
            refine cr_ldc2 h wc_X9_338 dX9_journey_55 ?_
            refine cr_callS h C_yX9_in cZ_yX9_in wm_X9_154 ws_yX9_in (cr_rmS (by decide) (by decide)) (As := [.long x4.toInt64, .long x3.toInt64, .long (23 : Int64)]) rfl (Nat.le_of_ble_eq_true rfl) dX9_journey_58 ⟨τ, x4.toInt64, x3.toInt64, (23 : Int64), rfl, hτ, rfl, ?_⟩
            show cr_V Γ 61 [.ref 200, .int x1, .int x2, .int x3, .int x4, .int x5] [.int (f_yX9_in τ x4.toInt64 x3.toInt64 (23 : Int64) I)] I (cr_rf τ) 247
            refine cr_if_eq h (tgt := 72) (by decide) dX9_journey_61 (fun c5 => ?_) (fun c5 => ?_)
            · have hyp := hyp.1 c5
              refine cr_bipush h (v := (-3 : Int32)) (by decide) dX9_journey_72 ?_
              refine cr_iret h rfl rfl rfl dX9_journey_74 ?_
              exact hK _ _ hyp
            · have hyp := hyp.2 c5
              refine cr_iload h rfl dX9_journey_64 ?_
              refine cr_iload_n h (j := 3) rfl rfl dX9_journey_66 ?_
              refine cr_isub h dX9_journey_67 ?_
              refine cr_iconst h (v := (5 : Int32)) (by decide) dX9_journey_68 ?_
              refine cr_icmp_le h (tgt := 75) (by decide) dX9_journey_69 (fun c6 => ?_) (fun c6 => ?_)
              · have hyp := hyp.1 c6
                refine cr_aload_n h (j := 0) rfl rfl dX9_journey_75 ?_
                refine cr_getI h (k := 34) cr_clsX9 (by decide) rfl rfl wf_X9_340 (by decide) rfl dX9_journey_76 ?_
                refine cr_iconst h (v := (5 : Int32)) (by decide) dX9_journey_79 ?_
                refine cr_icmp_ne h (tgt := 86) (by decide) dX9_journey_80 (fun c7 => ?_) (fun c7 => ?_)
                · have hyp := hyp.1 c7
                  refine cr_aload_n h (j := 0) rfl rfl dX9_journey_86 ?_
                  refine cr_getR h (k := 29) cr_clsX9 (by decide) rfl rfl wf_X9_74 (by decide) rfl rfl dX9_journey_87 ?_
                  refine cr_aload_n h (j := 0) rfl rfl dX9_journey_90 ?_
                  refine cr_getI h (k := 34) cr_clsX9 (by decide) rfl rfl wf_X9_340 (by decide) rfl dX9_journey_91 ?_
                  refine cr_iload_n h (j := 1) rfl rfl dX9_journey_94 ?_
                  refine cs_ist h (by decide) (by decide) rfl hyp.1 (q := (I 200 34).toNatClampNeg) rfl dX9_journey_95 (fun J1 eJ1 => ?_)
                  have hyp := hyp.2 J1 eJ1
                  refine cr_aload_n h (j := 0) rfl rfl dX9_journey_96 ?_
                  refine cr_getR h (k := 30) cr_clsX9 (by decide) rfl rfl wf_X9_77 (by decide) rfl rfl dX9_journey_97 ?_
                  refine cr_aload_n h (j := 0) rfl rfl dX9_journey_100 ?_
                  refine cr_getI h (k := 34) cr_clsX9 (by decide) rfl rfl wf_X9_340 (by decide) rfl dX9_journey_101 ?_
                  refine cr_iload_n h (j := 2) rfl rfl dX9_journey_104 ?_
                  refine cs_ist h (by decide) (by decide) rfl hyp.1 (q := (J1 200 34).toNatClampNeg) rfl dX9_journey_105 (fun J2 eJ2 => ?_)
                  have hyp := hyp.2 J2 eJ2
                  refine cr_aload_n h (j := 0) rfl rfl dX9_journey_106 ?_
                  refine cr_getR h (k := 31) cr_clsX9 (by decide) rfl rfl wf_X9_80 (by decide) rfl rfl dX9_journey_107 ?_
                  refine cr_aload_n h (j := 0) rfl rfl dX9_journey_110 ?_
                  refine cr_getI h (k := 34) cr_clsX9 (by decide) rfl rfl wf_X9_340 (by decide) rfl dX9_journey_111 ?_
                  refine cr_iload_n h (j := 3) rfl rfl dX9_journey_114 ?_
                  refine cs_ist h (by decide) (by decide) rfl hyp.1 (q := (J2 200 34).toNatClampNeg) rfl dX9_journey_115 (fun J3 eJ3 => ?_)
                  have hyp := hyp.2 J3 eJ3
                  refine cr_aload_n h (j := 0) rfl rfl dX9_journey_116 ?_
                  refine cr_getR h (k := 32) cr_clsX9 (by decide) rfl rfl wf_X9_83 (by decide) rfl rfl dX9_journey_117 ?_
                  refine cr_aload_n h (j := 0) rfl rfl dX9_journey_120 ?_
                  refine cr_getI h (k := 34) cr_clsX9 (by decide) rfl rfl wf_X9_340 (by decide) rfl dX9_journey_121 ?_
                  refine cr_iload h rfl dX9_journey_124 ?_
                  refine cs_ist h (by decide) (by decide) rfl hyp.1 (q := (J3 200 34).toNatClampNeg) rfl dX9_journey_126 (fun J4 eJ4 => ?_)
                  have hyp := hyp.2 J4 eJ4
                  refine cr_aload_n h (j := 0) rfl rfl dX9_journey_127 ?_
                  refine cr_getR h (k := 33) cr_clsX9 (by decide) rfl rfl wf_X9_86 (by decide) rfl rfl dX9_journey_128 ?_
                  refine cr_aload_n h (j := 0) rfl rfl dX9_journey_131 ?_
                  refine cr_getI h (k := 34) cr_clsX9 (by decide) rfl rfl wf_X9_340 (by decide) rfl dX9_journey_132 ?_
                  refine cr_iload h rfl dX9_journey_135 ?_
                  refine cs_ist h (by decide) (by decide) rfl hyp.1 (q := (J4 200 34).toNatClampNeg) rfl dX9_journey_137 (fun J5 eJ5 => ?_)
                  have hyp := hyp.2 J5 eJ5
                  refine cr_aload_n h (j := 0) rfl rfl dX9_journey_138 ?_
                  refine cr_dup h rfl dX9_journey_139 ?_
                  refine cr_getI h (k := 34) cr_clsX9 (by decide) rfl rfl wf_X9_340 (by decide) rfl dX9_journey_140 ?_
                  refine cr_iconst h (v := (1 : Int32)) (by decide) dX9_journey_143 ?_
                  refine cr_iadd h dX9_journey_144 ?_
                  refine cs_put h (k := 34) cr_clsX9 (by decide) rfl rfl rfl rfl wf_X9_340 (by decide) (by decide) rfl dX9_journey_145 (fun J6 eJ6 => ?_)
                  have hyp := hyp J6 eJ6
                  refine cr_aload_n h (j := 0) rfl rfl dX9_journey_148 ?_
                  refine cr_getI h (k := 34) cr_clsX9 (by decide) rfl rfl wf_X9_340 (by decide) rfl dX9_journey_149 ?_
                  refine cr_iconst h (v := (1 : Int32)) (by decide) dX9_journey_152 ?_
                  refine cr_isub h dX9_journey_153 ?_
                  refine cr_iret h rfl rfl rfl dX9_journey_154 ?_
                  exact hK _ _ hyp
                · have hyp := hyp.2 c7
                  refine cr_bipush h (v := (-5 : Int32)) (by decide) dX9_journey_83 ?_
                  refine cr_iret h rfl rfl rfl dX9_journey_85 ?_
                  exact hK _ _ hyp
              · have hyp := hyp.2 c6
                refine cr_bipush h (v := (-3 : Int32)) (by decide) dX9_journey_72 ?_
                refine cr_iret h rfl rfl rfl dX9_journey_74 ?_
                exact hK _ _ hyp
        · have hyp := hyp.2 c3
          refine cr_bipush h (v := (-2 : Int32)) (by decide) dX9_journey_35 ?_
          refine cr_iret h rfl rfl rfl dX9_journey_37 ?_
          exact hK _ _ hyp
def t_yX9_clear (τ : Nat → Nat) (I : cr_I) (Q : Int32 → cr_I → Prop) : Prop := ∀ v1 : Int32, v1 = (I 200 34) → (∀ J1 : cr_I, J1 = cr_up I 200 34 (0 : Int32) → Q v1 J1)
abbrev T_yX9_clear : cr_T := fun vs I R K => ∃ (τ : Nat → Nat) (Q : Int32 → cr_I → Prop), R = cr_rf τ ∧ cr_tau τ ∧ vs = [.ref 200] ∧ t_yX9_clear τ I Q ∧ ∀ r J, Q r J → K (some (.int r)) J (cr_rf τ)
theorem C_yX9_clear : cr_C yX9_clear cX9_clear 2 (some .int) (cr_rm0 0 0) 247 247 T_yX9_clear := by
  refine cr_C.of (by decide +kernel) (fun vs I R K hT => ?_) (fun Γ K h vs I R hT => ?_)
  · obtain ⟨τ, Q, rfl, hτ, rfl, hyp, hK⟩ := hT
    exact Nat.le_of_ble_eq_true rfl
  · obtain ⟨τ, Q, rfl, hτ, rfl, hyp, hK⟩ := hT
    unfold t_yX9_clear at hyp
    show cr_V Γ 0 [.ref 200, .null] [] I (cr_rf τ) 247
    refine cr_aload_n h (j := 0) rfl rfl dX9_clear_0 ?_
    refine cr_getI h (k := 34) cr_clsX9 (by decide) rfl rfl wf_X9_340 (by decide) rfl dX9_clear_1 ?_
    refine cs_i_n h 1 rfl (by decide) rfl dX9_clear_4 (fun v1 ev1 => ?_)
    have hyp := hyp v1 ev1
    show cr_V Γ 5 [.ref 200, .int v1] [] I (cr_rf τ) 247
    refine cr_aload_n h (j := 0) rfl rfl dX9_clear_5 ?_
    refine cr_iconst h (v := (0 : Int32)) (by decide) dX9_clear_6 ?_
    refine cs_put h (k := 34) cr_clsX9 (by decide) rfl rfl rfl rfl wf_X9_340 (by decide) (by decide) rfl dX9_clear_7 (fun J1 eJ1 => ?_)
    have hyp := hyp J1 eJ1
    refine cr_iload_n h (j := 1) rfl rfl dX9_clear_10 ?_
    refine cr_iret h rfl rfl rfl dX9_clear_11 ?_
    exact hK _ _ hyp
def t_yX9_spared (τ : Nat → Nat) (x1 : Int32) (x2 : Int32) (x3 : Int32) (I : cr_I) (Q : Int32 → cr_I → Prop) : Prop := ((f_yX9_isSix τ x1 I) = 0 → Q (-2 : Int32) I) ∧ (¬ (f_yX9_isSix τ x1 I) = 0 → (((f_yX9_isSix τ x2 I) = 0 → Q (-2 : Int32) I) ∧ (¬ (f_yX9_isSix τ x2 I) = 0 → ((¬ x1 = x2 → ((¬ (f_yX9_in τ x3.toInt64 (0 : Int64) (99 : Int64) I) = 0 → ((0 ≤ (((6 : Int32) * x1) + x2).toInt ∧ (((6 : Int32) * x1) + x2).toInt < 36) ∧ (∀ v1 : Int32, v1 = (I 226 (((6 : Int32) * x1) + x2).toNatClampNeg) → ((0 ≤ (((6 : Int32) * x1) + x2).toInt ∧ (((6 : Int32) * x1) + x2).toInt < 36) ∧ (∀ J1 : cr_I, J1 = cr_up I 226 ((((6 : Int32) * x1) + x2).toNatClampNeg) x3 → Q v1 J1))))) ∧ ((f_yX9_in τ x3.toInt64 (0 : Int64) (99 : Int64) I) = 0 → Q (-3 : Int32) I))) ∧ (x1 = x2 → Q (-2 : Int32) I)))))
abbrev T_yX9_spared : cr_T := fun vs I R K => ∃ (τ : Nat → Nat) (x1 : Int32) (x2 : Int32) (x3 : Int32) (Q : Int32 → cr_I → Prop), R = cr_rf τ ∧ cr_tau τ ∧ vs = [.ref 200, .int x1, .int x2, .int x3] ∧ t_yX9_spared τ x1 x2 x3 I Q ∧ ∀ r J, Q r J → K (some (.int r)) J (cr_rf τ)
theorem C_yX9_spared : cr_C yX9_spared cX9_spared 5 (some .int) (cr_rm0 2 45) 247 247 T_yX9_spared := by
  refine cr_C.of (by decide +kernel) (fun vs I R K hT => ?_) (fun Γ K h vs I R hT => ?_)
  · obtain ⟨τ, x1, x2, x3, Q, rfl, hτ, rfl, hyp, hK⟩ := hT
    exact Nat.le_of_ble_eq_true rfl
  · obtain ⟨τ, x1, x2, x3, Q, rfl, hτ, rfl, hyp, hK⟩ := hT
    unfold t_yX9_spared at hyp
    show cr_V Γ 0 [.ref 200, .int x1, .int x2, .int x3, .null] [] I (cr_rf τ) 247
    refine cr_iload_n h (j := 1) rfl rfl dX9_spared_0 ?_
    refine cr_callS h C_yX9_isSix cZ_yX9_isSix wm_X9_353 ws_yX9_isSix (cr_rmS (by decide) (by decide)) (As := [.int x1]) rfl (Nat.le_of_ble_eq_true rfl) dX9_spared_1 ⟨τ, x1, rfl, hτ, rfl, ?_⟩
    show cr_V Γ 4 [.ref 200, .int x1, .int x2, .int x3, .null] [.int (f_yX9_isSix τ x1 I)] I (cr_rf τ) 247
    refine cr_if_eq h (tgt := 19) (by decide) dX9_spared_4 (fun c1 => ?_) (fun c1 => ?_)
    · have hyp := hyp.1 c1
      refine cr_bipush h (v := (-2 : Int32)) (by decide) dX9_spared_19 ?_
      refine cr_iret h rfl rfl rfl dX9_spared_21 ?_
      exact hK _ _ hyp
    · have hyp := hyp.2 c1
      refine cr_iload_n h (j := 2) rfl rfl dX9_spared_7 ?_
      refine cr_callS h C_yX9_isSix cZ_yX9_isSix wm_X9_353 ws_yX9_isSix (cr_rmS (by decide) (by decide)) (As := [.int x2]) rfl (Nat.le_of_ble_eq_true rfl) dX9_spared_8 ⟨τ, x2, rfl, hτ, rfl, ?_⟩
      show cr_V Γ 11 [.ref 200, .int x1, .int x2, .int x3, .null] [.int (f_yX9_isSix τ x2 I)] I (cr_rf τ) 247
      refine cr_if_eq h (tgt := 19) (by decide) dX9_spared_11 (fun c2 => ?_) (fun c2 => ?_)
      · have hyp := hyp.1 c2
        refine cr_bipush h (v := (-2 : Int32)) (by decide) dX9_spared_19 ?_
        refine cr_iret h rfl rfl rfl dX9_spared_21 ?_
        exact hK _ _ hyp
      · have hyp := hyp.2 c2
        refine cr_iload_n h (j := 1) rfl rfl dX9_spared_14 ?_
        refine cr_iload_n h (j := 2) rfl rfl dX9_spared_15 ?_
        refine cr_icmp_ne h (tgt := 22) (by decide) dX9_spared_16 (fun c3 => ?_) (fun c3 => ?_)
        · have hyp := hyp.1 c3
          refine cr_iload_n h (j := 3) rfl rfl dX9_spared_22 ?_
          refine cr_i2l h dX9_spared_23 ?_
          refine cr_lconst h (v := (0 : Int64)) (by decide) dX9_spared_24 ?_
          refine cr_ldc2 h wc_X9_250 dX9_spared_25 ?_
          refine cr_callS h C_yX9_in cZ_yX9_in wm_X9_154 ws_yX9_in (cr_rmS (by decide) (by decide)) (As := [.long x3.toInt64, .long (0 : Int64), .long (99 : Int64)]) rfl (Nat.le_of_ble_eq_true rfl) dX9_spared_28 ⟨τ, x3.toInt64, (0 : Int64), (99 : Int64), rfl, hτ, rfl, ?_⟩
          show cr_V Γ 31 [.ref 200, .int x1, .int x2, .int x3, .null] [.int (f_yX9_in τ x3.toInt64 (0 : Int64) (99 : Int64) I)] I (cr_rf τ) 247
          refine cr_if_ne h (tgt := 37) (by decide) dX9_spared_31 (fun c4 => ?_) (fun c4 => ?_)
          · have hyp := hyp.1 c4
            refine cr_aload_n h (j := 0) rfl rfl dX9_spared_37 ?_
            refine cr_getR h (k := 35) cr_clsX9 (by decide) rfl rfl wf_X9_89 (by decide) rfl rfl dX9_spared_38 ?_
            refine cr_bipush h (v := (6 : Int32)) (by decide) dX9_spared_41 ?_
            refine cr_iload_n h (j := 1) rfl rfl dX9_spared_43 ?_
            refine cr_imul h dX9_spared_44 ?_
            refine cr_iload_n h (j := 2) rfl rfl dX9_spared_45 ?_
            refine cr_iadd h dX9_spared_46 ?_
            refine cs_ild h (by decide) rfl hyp.1 (q := (((6 : Int32) * x1) + x2).toNatClampNeg) rfl dX9_spared_47 ?_
            have hyp := hyp.2
            refine cs_i h 4 (by decide) rfl dX9_spared_48 (fun v1 ev1 => ?_)
            have hyp := hyp v1 ev1
            show cr_V Γ 50 [.ref 200, .int x1, .int x2, .int x3, .int v1] [] I (cr_rf τ) 247
            refine cr_aload_n h (j := 0) rfl rfl dX9_spared_50 ?_
            refine cr_getR h (k := 35) cr_clsX9 (by decide) rfl rfl wf_X9_89 (by decide) rfl rfl dX9_spared_51 ?_
            refine cr_bipush h (v := (6 : Int32)) (by decide) dX9_spared_54 ?_
            refine cr_iload_n h (j := 1) rfl rfl dX9_spared_56 ?_
            refine cr_imul h dX9_spared_57 ?_
            refine cr_iload_n h (j := 2) rfl rfl dX9_spared_58 ?_
            refine cr_iadd h dX9_spared_59 ?_
            refine cr_iload_n h (j := 3) rfl rfl dX9_spared_60 ?_
            refine cs_ist h (by decide) (by decide) rfl hyp.1 (q := (((6 : Int32) * x1) + x2).toNatClampNeg) rfl dX9_spared_61 (fun J1 eJ1 => ?_)
            have hyp := hyp.2 J1 eJ1
            refine cr_iload h rfl dX9_spared_62 ?_
            refine cr_iret h rfl rfl rfl dX9_spared_64 ?_
            exact hK _ _ hyp
          · have hyp := hyp.2 c4
            refine cr_bipush h (v := (-3 : Int32)) (by decide) dX9_spared_34 ?_
            refine cr_iret h rfl rfl rfl dX9_spared_36 ?_
            exact hK _ _ hyp
        · have hyp := hyp.2 c3
          refine cr_bipush h (v := (-2 : Int32)) (by decide) dX9_spared_19 ?_
          refine cr_iret h rfl rfl rfl dX9_spared_21 ?_
          exact hK _ _ hyp
def t_yX9_clock (τ : Nat → Nat) (x1 : Int32) (x2 : Int32) (I : cr_I) (Q : Int32 → cr_I → Prop) : Prop := (¬ (f_yX9_isSix τ x1 I) = 0 → ((¬ (f_yX9_in τ x2.toInt64 (0 : Int64) (60 : Int64) I) = 0 → ((0 ≤ x1.toInt ∧ x1.toInt < 6) ∧ (∀ v1 : Int32, v1 = (I 227 x1.toNatClampNeg) → ((0 ≤ x1.toInt ∧ x1.toInt < 6) ∧ (∀ J1 : cr_I, J1 = cr_up I 227 x1.toNatClampNeg x2 → Q v1 J1))))) ∧ ((f_yX9_in τ x2.toInt64 (0 : Int64) (60 : Int64) I) = 0 → Q (-3 : Int32) I))) ∧ ((f_yX9_isSix τ x1 I) = 0 → Q (-2 : Int32) I)
abbrev T_yX9_clock : cr_T := fun vs I R K => ∃ (τ : Nat → Nat) (x1 : Int32) (x2 : Int32) (Q : Int32 → cr_I → Prop), R = cr_rf τ ∧ cr_tau τ ∧ vs = [.ref 200, .int x1, .int x2] ∧ t_yX9_clock τ x1 x2 I Q ∧ ∀ r J, Q r J → K (some (.int r)) J (cr_rf τ)
theorem C_yX9_clock : cr_C yX9_clock cX9_clock 4 (some .int) (cr_rm0 2 45) 247 247 T_yX9_clock := by
  refine cr_C.of (by decide +kernel) (fun vs I R K hT => ?_) (fun Γ K h vs I R hT => ?_)
  · obtain ⟨τ, x1, x2, Q, rfl, hτ, rfl, hyp, hK⟩ := hT
    exact Nat.le_of_ble_eq_true rfl
  · obtain ⟨τ, x1, x2, Q, rfl, hτ, rfl, hyp, hK⟩ := hT
    unfold t_yX9_clock at hyp
    show cr_V Γ 0 [.ref 200, .int x1, .int x2, .null] [] I (cr_rf τ) 247
    refine cr_iload_n h (j := 1) rfl rfl dX9_clock_0 ?_
    refine cr_callS h C_yX9_isSix cZ_yX9_isSix wm_X9_353 ws_yX9_isSix (cr_rmS (by decide) (by decide)) (As := [.int x1]) rfl (Nat.le_of_ble_eq_true rfl) dX9_clock_1 ⟨τ, x1, rfl, hτ, rfl, ?_⟩
    show cr_V Γ 4 [.ref 200, .int x1, .int x2, .null] [.int (f_yX9_isSix τ x1 I)] I (cr_rf τ) 247
    refine cr_if_ne h (tgt := 10) (by decide) dX9_clock_4 (fun c1 => ?_) (fun c1 => ?_)
    · have hyp := hyp.1 c1
      refine cr_iload_n h (j := 2) rfl rfl dX9_clock_10 ?_
      refine cr_i2l h dX9_clock_11 ?_
      refine cr_lconst h (v := (0 : Int64)) (by decide) dX9_clock_12 ?_
      refine cr_ldc2 h wc_X9_376 dX9_clock_13 ?_
      refine cr_callS h C_yX9_in cZ_yX9_in wm_X9_154 ws_yX9_in (cr_rmS (by decide) (by decide)) (As := [.long x2.toInt64, .long (0 : Int64), .long (60 : Int64)]) rfl (Nat.le_of_ble_eq_true rfl) dX9_clock_16 ⟨τ, x2.toInt64, (0 : Int64), (60 : Int64), rfl, hτ, rfl, ?_⟩
      show cr_V Γ 19 [.ref 200, .int x1, .int x2, .null] [.int (f_yX9_in τ x2.toInt64 (0 : Int64) (60 : Int64) I)] I (cr_rf τ) 247
      refine cr_if_ne h (tgt := 25) (by decide) dX9_clock_19 (fun c2 => ?_) (fun c2 => ?_)
      · have hyp := hyp.1 c2
        refine cr_aload_n h (j := 0) rfl rfl dX9_clock_25 ?_
        refine cr_getR h (k := 36) cr_clsX9 (by decide) rfl rfl wf_X9_92 (by decide) rfl rfl dX9_clock_26 ?_
        refine cr_iload_n h (j := 1) rfl rfl dX9_clock_29 ?_
        refine cs_ild h (by decide) rfl hyp.1 (q := x1.toNatClampNeg) rfl dX9_clock_30 ?_
        have hyp := hyp.2
        refine cs_i_n h 3 rfl (by decide) rfl dX9_clock_31 (fun v1 ev1 => ?_)
        have hyp := hyp v1 ev1
        show cr_V Γ 32 [.ref 200, .int x1, .int x2, .int v1] [] I (cr_rf τ) 247
        refine cr_aload_n h (j := 0) rfl rfl dX9_clock_32 ?_
        refine cr_getR h (k := 36) cr_clsX9 (by decide) rfl rfl wf_X9_92 (by decide) rfl rfl dX9_clock_33 ?_
        refine cr_iload_n h (j := 1) rfl rfl dX9_clock_36 ?_
        refine cr_iload_n h (j := 2) rfl rfl dX9_clock_37 ?_
        refine cs_ist h (by decide) (by decide) rfl hyp.1 (q := x1.toNatClampNeg) rfl dX9_clock_38 (fun J1 eJ1 => ?_)
        have hyp := hyp.2 J1 eJ1
        refine cr_iload_n h (j := 3) rfl rfl dX9_clock_39 ?_
        refine cr_iret h rfl rfl rfl dX9_clock_40 ?_
        exact hK _ _ hyp
      · have hyp := hyp.2 c2
        refine cr_bipush h (v := (-3 : Int32)) (by decide) dX9_clock_22 ?_
        refine cr_iret h rfl rfl rfl dX9_clock_24 ?_
        exact hK _ _ hyp
    · have hyp := hyp.2 c1
      refine cr_bipush h (v := (-2 : Int32)) (by decide) dX9_clock_7 ?_
      refine cr_iret h rfl rfl rfl dX9_clock_9 ?_
      exact hK _ _ hyp
def t_yX9_event (τ : Nat → Nat) (x1 : Int32) (x2 : Int32) (I : cr_I) (Q : Int32 → cr_I → Prop) : Prop := (¬ (f_yX9_isSix τ x1 I) = 0 → ((¬ (f_yX9_in τ x2.toInt64 (0 : Int64) (999 : Int64) I) = 0 → ((¬ (I 200 39) = (12 : Int32) → ((0 ≤ (I 200 39).toInt ∧ (I 200 39).toInt < 12) ∧ (∀ J1 : cr_I, J1 = cr_up I 228 ((I 200 39).toNatClampNeg) x1 → ((0 ≤ (J1 200 39).toInt ∧ (J1 200 39).toInt < 12) ∧ (∀ J2 : cr_I, J2 = cr_up J1 229 ((J1 200 39).toNatClampNeg) x2 → (∀ J3 : cr_I, J3 = cr_up J2 200 39 ((J2 200 39) + (1 : Int32)) → Q ((J3 200 39) - (1 : Int32)) J3)))))) ∧ ((I 200 39) = (12 : Int32) → Q (-5 : Int32) I))) ∧ ((f_yX9_in τ x2.toInt64 (0 : Int64) (999 : Int64) I) = 0 → Q (-3 : Int32) I))) ∧ ((f_yX9_isSix τ x1 I) = 0 → Q (-2 : Int32) I)
abbrev T_yX9_event : cr_T := fun vs I R K => ∃ (τ : Nat → Nat) (x1 : Int32) (x2 : Int32) (Q : Int32 → cr_I → Prop), R = cr_rf τ ∧ cr_tau τ ∧ vs = [.ref 200, .int x1, .int x2] ∧ t_yX9_event τ x1 x2 I Q ∧ ∀ r J, Q r J → K (some (.int r)) J (cr_rf τ)
theorem C_yX9_event : cr_C yX9_event cX9_event 3 (some .int) (cr_rm0 2 45) 247 247 T_yX9_event := by
  refine cr_C.of (by decide +kernel) (fun vs I R K hT => ?_) (fun Γ K h vs I R hT => ?_)
  · obtain ⟨τ, x1, x2, Q, rfl, hτ, rfl, hyp, hK⟩ := hT
    exact Nat.le_of_ble_eq_true rfl
  · obtain ⟨τ, x1, x2, Q, rfl, hτ, rfl, hyp, hK⟩ := hT
    unfold t_yX9_event at hyp
    show cr_V Γ 0 [.ref 200, .int x1, .int x2] [] I (cr_rf τ) 247
    refine cr_iload_n h (j := 1) rfl rfl dX9_event_0 ?_
    refine cr_callS h C_yX9_isSix cZ_yX9_isSix wm_X9_353 ws_yX9_isSix (cr_rmS (by decide) (by decide)) (As := [.int x1]) rfl (Nat.le_of_ble_eq_true rfl) dX9_event_1 ⟨τ, x1, rfl, hτ, rfl, ?_⟩
    show cr_V Γ 4 [.ref 200, .int x1, .int x2] [.int (f_yX9_isSix τ x1 I)] I (cr_rf τ) 247
    refine cr_if_ne h (tgt := 10) (by decide) dX9_event_4 (fun c1 => ?_) (fun c1 => ?_)
    · have hyp := hyp.1 c1
      refine cr_iload_n h (j := 2) rfl rfl dX9_event_10 ?_
      refine cr_i2l h dX9_event_11 ?_
      refine cr_lconst h (v := (0 : Int64)) (by decide) dX9_event_12 ?_
      refine cr_ldc2 h wc_X9_378 dX9_event_13 ?_
      refine cr_callS h C_yX9_in cZ_yX9_in wm_X9_154 ws_yX9_in (cr_rmS (by decide) (by decide)) (As := [.long x2.toInt64, .long (0 : Int64), .long (999 : Int64)]) rfl (Nat.le_of_ble_eq_true rfl) dX9_event_16 ⟨τ, x2.toInt64, (0 : Int64), (999 : Int64), rfl, hτ, rfl, ?_⟩
      show cr_V Γ 19 [.ref 200, .int x1, .int x2] [.int (f_yX9_in τ x2.toInt64 (0 : Int64) (999 : Int64) I)] I (cr_rf τ) 247
      refine cr_if_ne h (tgt := 25) (by decide) dX9_event_19 (fun c2 => ?_) (fun c2 => ?_)
      · have hyp := hyp.1 c2
        refine cr_aload_n h (j := 0) rfl rfl dX9_event_25 ?_
        refine cr_getI h (k := 39) cr_clsX9 (by decide) rfl rfl wf_X9_380 (by decide) rfl dX9_event_26 ?_
        refine cr_bipush h (v := (12 : Int32)) (by decide) dX9_event_29 ?_
        refine cr_icmp_ne h (tgt := 37) (by decide) dX9_event_31 (fun c3 => ?_) (fun c3 => ?_)
        · have hyp := hyp.1 c3
          refine cr_aload_n h (j := 0) rfl rfl dX9_event_37 ?_
          refine cr_getR h (k := 37) cr_clsX9 (by decide) rfl rfl wf_X9_95 (by decide) rfl rfl dX9_event_38 ?_
          refine cr_aload_n h (j := 0) rfl rfl dX9_event_41 ?_
          refine cr_getI h (k := 39) cr_clsX9 (by decide) rfl rfl wf_X9_380 (by decide) rfl dX9_event_42 ?_
          refine cr_iload_n h (j := 1) rfl rfl dX9_event_45 ?_
          refine cs_ist h (by decide) (by decide) rfl hyp.1 (q := (I 200 39).toNatClampNeg) rfl dX9_event_46 (fun J1 eJ1 => ?_)
          have hyp := hyp.2 J1 eJ1
          refine cr_aload_n h (j := 0) rfl rfl dX9_event_47 ?_
          refine cr_getR h (k := 38) cr_clsX9 (by decide) rfl rfl wf_X9_98 (by decide) rfl rfl dX9_event_48 ?_
          refine cr_aload_n h (j := 0) rfl rfl dX9_event_51 ?_
          refine cr_getI h (k := 39) cr_clsX9 (by decide) rfl rfl wf_X9_380 (by decide) rfl dX9_event_52 ?_
          refine cr_iload_n h (j := 2) rfl rfl dX9_event_55 ?_
          refine cs_ist h (by decide) (by decide) rfl hyp.1 (q := (J1 200 39).toNatClampNeg) rfl dX9_event_56 (fun J2 eJ2 => ?_)
          have hyp := hyp.2 J2 eJ2
          refine cr_aload_n h (j := 0) rfl rfl dX9_event_57 ?_
          refine cr_dup h rfl dX9_event_58 ?_
          refine cr_getI h (k := 39) cr_clsX9 (by decide) rfl rfl wf_X9_380 (by decide) rfl dX9_event_59 ?_
          refine cr_iconst h (v := (1 : Int32)) (by decide) dX9_event_62 ?_
          refine cr_iadd h dX9_event_63 ?_
          refine cs_put h (k := 39) cr_clsX9 (by decide) rfl rfl rfl rfl wf_X9_380 (by decide) (by decide) rfl dX9_event_64 (fun J3 eJ3 => ?_)
          have hyp := hyp J3 eJ3
          refine cr_aload_n h (j := 0) rfl rfl dX9_event_67 ?_
          refine cr_getI h (k := 39) cr_clsX9 (by decide) rfl rfl wf_X9_380 (by decide) rfl dX9_event_68 ?_
          refine cr_iconst h (v := (1 : Int32)) (by decide) dX9_event_71 ?_
          refine cr_isub h dX9_event_72 ?_
          refine cr_iret h rfl rfl rfl dX9_event_73 ?_
          exact hK _ _ hyp
        · have hyp := hyp.2 c3
          refine cr_bipush h (v := (-5 : Int32)) (by decide) dX9_event_34 ?_
          refine cr_iret h rfl rfl rfl dX9_event_36 ?_
          exact hK _ _ hyp
      · have hyp := hyp.2 c2
        refine cr_bipush h (v := (-3 : Int32)) (by decide) dX9_event_22 ?_
        refine cr_iret h rfl rfl rfl dX9_event_24 ?_
        exact hK _ _ hyp
    · have hyp := hyp.2 c1
      refine cr_bipush h (v := (-2 : Int32)) (by decide) dX9_event_7 ?_
      refine cr_iret h rfl rfl rfl dX9_event_9 ?_
      exact hK _ _ hyp
def t_yX9_after (τ : Nat → Nat) (x1 : Int32) (x2 : Int32) (x3 : Int32) (I : cr_I) (Q : Int32 → cr_I → Prop) : Prop := ((f_yX9_isEvent τ x1 I) = 0 → Q (-2 : Int32) I) ∧ (¬ (f_yX9_isEvent τ x1 I) = 0 → (((f_yX9_isEvent τ x2 I) = 0 → Q (-2 : Int32) I) ∧ (¬ (f_yX9_isEvent τ x2 I) = 0 → ((¬ x1 = x2 → ((¬ (f_yX9_in τ x3.toInt64 (0 : Int64) (99 : Int64) I) = 0 → ((¬ (I 200 43) = (12 : Int32) → ((0 ≤ (I 200 43).toInt ∧ (I 200 43).toInt < 12) ∧ (∀ J1 : cr_I, J1 = cr_up I 230 ((I 200 43).toNatClampNeg) x1 → ((0 ≤ (J1 200 43).toInt ∧ (J1 200 43).toInt < 12) ∧ (∀ J2 : cr_I, J2 = cr_up J1 231 ((J1 200 43).toNatClampNeg) x2 → ((0 ≤ (J2 200 43).toInt ∧ (J2 200 43).toInt < 12) ∧ (∀ J3 : cr_I, J3 = cr_up J2 232 ((J2 200 43).toNatClampNeg) x3 → (∀ J4 : cr_I, J4 = cr_up J3 200 43 ((J3 200 43) + (1 : Int32)) → Q (J4 200 43) J4)))))))) ∧ ((I 200 43) = (12 : Int32) → Q (-5 : Int32) I))) ∧ ((f_yX9_in τ x3.toInt64 (0 : Int64) (99 : Int64) I) = 0 → Q (-3 : Int32) I))) ∧ (x1 = x2 → Q (-2 : Int32) I)))))
abbrev T_yX9_after : cr_T := fun vs I R K => ∃ (τ : Nat → Nat) (x1 : Int32) (x2 : Int32) (x3 : Int32) (Q : Int32 → cr_I → Prop), R = cr_rf τ ∧ cr_tau τ ∧ vs = [.ref 200, .int x1, .int x2, .int x3] ∧ t_yX9_after τ x1 x2 x3 I Q ∧ ∀ r J, Q r J → K (some (.int r)) J (cr_rf τ)
theorem C_yX9_after : cr_C yX9_after cX9_after 4 (some .int) (cr_rm0 2 46) 247 247 T_yX9_after := by
  refine cr_C.of (by decide +kernel) (fun vs I R K hT => ?_) (fun Γ K h vs I R hT => ?_)
  · obtain ⟨τ, x1, x2, x3, Q, rfl, hτ, rfl, hyp, hK⟩ := hT
    exact Nat.le_of_ble_eq_true rfl
  · obtain ⟨τ, x1, x2, x3, Q, rfl, hτ, rfl, hyp, hK⟩ := hT
    unfold t_yX9_after at hyp
    show cr_V Γ 0 [.ref 200, .int x1, .int x2, .int x3] [] I (cr_rf τ) 247
    refine cr_aload_n h (j := 0) rfl rfl dX9_after_0 ?_
    refine cr_iload_n h (j := 1) rfl rfl dX9_after_1 ?_
    refine cr_callV h (c0 := 9) (T0 := TX9) C_yX9_isEvent cZ_yX9_isEvent wm_X9_383 wv_yX9_isEvent we_yX9_isEvent (by decide) rfl rfl (cr_rmS (by decide) (by decide)) (As := [.int x1]) rfl (Nat.le_of_ble_eq_true rfl) dX9_after_2 ⟨τ, x1, rfl, hτ, rfl, ?_⟩
    show cr_V Γ 5 [.ref 200, .int x1, .int x2, .int x3] [.int (f_yX9_isEvent τ x1 I)] I (cr_rf τ) 247
    refine cr_if_eq h (tgt := 21) (by decide) dX9_after_5 (fun c1 => ?_) (fun c1 => ?_)
    · have hyp := hyp.1 c1
      refine cr_bipush h (v := (-2 : Int32)) (by decide) dX9_after_21 ?_
      refine cr_iret h rfl rfl rfl dX9_after_23 ?_
      exact hK _ _ hyp
    · have hyp := hyp.2 c1
      refine cr_aload_n h (j := 0) rfl rfl dX9_after_8 ?_
      refine cr_iload_n h (j := 2) rfl rfl dX9_after_9 ?_
      refine cr_callV h (c0 := 9) (T0 := TX9) C_yX9_isEvent cZ_yX9_isEvent wm_X9_383 wv_yX9_isEvent we_yX9_isEvent (by decide) rfl rfl (cr_rmS (by decide) (by decide)) (As := [.int x2]) rfl (Nat.le_of_ble_eq_true rfl) dX9_after_10 ⟨τ, x2, rfl, hτ, rfl, ?_⟩
      show cr_V Γ 13 [.ref 200, .int x1, .int x2, .int x3] [.int (f_yX9_isEvent τ x2 I)] I (cr_rf τ) 247
      refine cr_if_eq h (tgt := 21) (by decide) dX9_after_13 (fun c2 => ?_) (fun c2 => ?_)
      · have hyp := hyp.1 c2
        refine cr_bipush h (v := (-2 : Int32)) (by decide) dX9_after_21 ?_
        refine cr_iret h rfl rfl rfl dX9_after_23 ?_
        exact hK _ _ hyp
      · have hyp := hyp.2 c2
        refine cr_iload_n h (j := 1) rfl rfl dX9_after_16 ?_
        refine cr_iload_n h (j := 2) rfl rfl dX9_after_17 ?_
        refine cr_icmp_ne h (tgt := 24) (by decide) dX9_after_18 (fun c3 => ?_) (fun c3 => ?_)
        · have hyp := hyp.1 c3
          refine cr_iload_n h (j := 3) rfl rfl dX9_after_24 ?_
          refine cr_i2l h dX9_after_25 ?_
          refine cr_lconst h (v := (0 : Int64)) (by decide) dX9_after_26 ?_
          refine cr_ldc2 h wc_X9_250 dX9_after_27 ?_
          refine cr_callS h C_yX9_in cZ_yX9_in wm_X9_154 ws_yX9_in (cr_rmS (by decide) (by decide)) (As := [.long x3.toInt64, .long (0 : Int64), .long (99 : Int64)]) rfl (Nat.le_of_ble_eq_true rfl) dX9_after_30 ⟨τ, x3.toInt64, (0 : Int64), (99 : Int64), rfl, hτ, rfl, ?_⟩
          show cr_V Γ 33 [.ref 200, .int x1, .int x2, .int x3] [.int (f_yX9_in τ x3.toInt64 (0 : Int64) (99 : Int64) I)] I (cr_rf τ) 247
          refine cr_if_ne h (tgt := 39) (by decide) dX9_after_33 (fun c4 => ?_) (fun c4 => ?_)
          · have hyp := hyp.1 c4
            refine cr_aload_n h (j := 0) rfl rfl dX9_after_39 ?_
            refine cr_getI h (k := 43) cr_clsX9 (by decide) rfl rfl wf_X9_386 (by decide) rfl dX9_after_40 ?_
            refine cr_bipush h (v := (12 : Int32)) (by decide) dX9_after_43 ?_
            refine cr_icmp_ne h (tgt := 51) (by decide) dX9_after_45 (fun c5 => ?_) (fun c5 => ?_)
            · have hyp := hyp.1 c5
              refine cr_aload_n h (j := 0) rfl rfl dX9_after_51 ?_
              refine cr_getR h (k := 40) cr_clsX9 (by decide) rfl rfl wf_X9_101 (by decide) rfl rfl dX9_after_52 ?_
              refine cr_aload_n h (j := 0) rfl rfl dX9_after_55 ?_
              refine cr_getI h (k := 43) cr_clsX9 (by decide) rfl rfl wf_X9_386 (by decide) rfl dX9_after_56 ?_
              refine cr_iload_n h (j := 1) rfl rfl dX9_after_59 ?_
              refine cs_ist h (by decide) (by decide) rfl hyp.1 (q := (I 200 43).toNatClampNeg) rfl dX9_after_60 (fun J1 eJ1 => ?_)
              have hyp := hyp.2 J1 eJ1
              refine cr_aload_n h (j := 0) rfl rfl dX9_after_61 ?_
              refine cr_getR h (k := 41) cr_clsX9 (by decide) rfl rfl wf_X9_104 (by decide) rfl rfl dX9_after_62 ?_
              refine cr_aload_n h (j := 0) rfl rfl dX9_after_65 ?_
              refine cr_getI h (k := 43) cr_clsX9 (by decide) rfl rfl wf_X9_386 (by decide) rfl dX9_after_66 ?_
              refine cr_iload_n h (j := 2) rfl rfl dX9_after_69 ?_
              refine cs_ist h (by decide) (by decide) rfl hyp.1 (q := (J1 200 43).toNatClampNeg) rfl dX9_after_70 (fun J2 eJ2 => ?_)
              have hyp := hyp.2 J2 eJ2
              refine cr_aload_n h (j := 0) rfl rfl dX9_after_71 ?_
              refine cr_getR h (k := 42) cr_clsX9 (by decide) rfl rfl wf_X9_107 (by decide) rfl rfl dX9_after_72 ?_
              refine cr_aload_n h (j := 0) rfl rfl dX9_after_75 ?_
              refine cr_getI h (k := 43) cr_clsX9 (by decide) rfl rfl wf_X9_386 (by decide) rfl dX9_after_76 ?_
              refine cr_iload_n h (j := 3) rfl rfl dX9_after_79 ?_
              refine cs_ist h (by decide) (by decide) rfl hyp.1 (q := (J2 200 43).toNatClampNeg) rfl dX9_after_80 (fun J3 eJ3 => ?_)
              have hyp := hyp.2 J3 eJ3
              refine cr_aload_n h (j := 0) rfl rfl dX9_after_81 ?_
              refine cr_dup h rfl dX9_after_82 ?_
              refine cr_getI h (k := 43) cr_clsX9 (by decide) rfl rfl wf_X9_386 (by decide) rfl dX9_after_83 ?_
              refine cr_iconst h (v := (1 : Int32)) (by decide) dX9_after_86 ?_
              refine cr_iadd h dX9_after_87 ?_
              refine cs_put h (k := 43) cr_clsX9 (by decide) rfl rfl rfl rfl wf_X9_386 (by decide) (by decide) rfl dX9_after_88 (fun J4 eJ4 => ?_)
              have hyp := hyp J4 eJ4
              refine cr_aload_n h (j := 0) rfl rfl dX9_after_91 ?_
              refine cr_getI h (k := 43) cr_clsX9 (by decide) rfl rfl wf_X9_386 (by decide) rfl dX9_after_92 ?_
              refine cr_iret h rfl rfl rfl dX9_after_95 ?_
              exact hK _ _ hyp
            · have hyp := hyp.2 c5
              refine cr_bipush h (v := (-5 : Int32)) (by decide) dX9_after_48 ?_
              refine cr_iret h rfl rfl rfl dX9_after_50 ?_
              exact hK _ _ hyp
          · have hyp := hyp.2 c4
            refine cr_bipush h (v := (-3 : Int32)) (by decide) dX9_after_36 ?_
            refine cr_iret h rfl rfl rfl dX9_after_38 ?_
            exact hK _ _ hyp
        · have hyp := hyp.2 c3
          refine cr_bipush h (v := (-2 : Int32)) (by decide) dX9_after_21 ?_
          refine cr_iret h rfl rfl rfl dX9_after_23 ?_
          exact hK _ _ hyp
def t_yX9_count (τ : Nat → Nat) (x1 : Int32) (I : cr_I) (Q : Int32 → cr_I → Prop) : Prop := ((x1.toInt < 0 ∨ 6 < x1.toInt) → Q (-3 : Int32) I) ∧ (x1 = Int32.ofNat 0 → Q (I 200 13) I) ∧ (x1 = Int32.ofNat 1 → Q (I 200 18) I) ∧ (x1 = Int32.ofNat 2 → Q (I 200 24) I) ∧ (x1 = Int32.ofNat 3 → Q (I 200 34) I) ∧ (x1 = Int32.ofNat 4 → Q (I 200 39) I) ∧ (x1 = Int32.ofNat 5 → Q (I 200 43) I) ∧ (x1 = Int32.ofNat 6 → Q (I 200 5) I)
abbrev T_yX9_count : cr_T := fun vs I R K => ∃ (τ : Nat → Nat) (x1 : Int32) (Q : Int32 → cr_I → Prop), R = cr_rf τ ∧ cr_tau τ ∧ vs = [.ref 200, .int x1] ∧ t_yX9_count τ x1 I Q ∧ ∀ r J, Q r J → K (some (.int r)) J (cr_rf τ)
theorem C_yX9_count : cr_C yX9_count cX9_count 2 (some .int) (cr_rm0 0 0) 247 247 T_yX9_count := by
  refine cr_C.of (by decide +kernel) (fun vs I R K hT => ?_) (fun Γ K h vs I R hT => ?_)
  · obtain ⟨τ, x1, Q, rfl, hτ, rfl, hyp, hK⟩ := hT
    exact Nat.le_of_ble_eq_true rfl
  · obtain ⟨τ, x1, Q, rfl, hτ, rfl, hyp, hK⟩ := hT
    unfold t_yX9_count at hyp
    show cr_V Γ 0 [.ref 200, .int x1] [] I (cr_rf τ) 247
    refine cr_iload_n h (j := 1) rfl rfl dX9_count_0 ?_
    refine cs_sw h [44, 49, 54, 59, 64, 69, 74] (by decide) (by decide) (dt := 79) (by decide) (by decide) dX9_count_1 (fun c1 => ?_) (fun jc1 hjc1 c1 => ?_)
    · have hyp := hyp.1 c1
      refine cr_bipush h (v := (-3 : Int32)) (by decide) dX9_count_79 ?_
      refine cr_iret h rfl rfl rfl dX9_count_81 ?_
      exact hK _ _ hyp
    · rcases (show jc1 = 0 ∨ jc1 = 1 ∨ jc1 = 2 ∨ jc1 = 3 ∨ jc1 = 4 ∨ jc1 = 5 ∨ jc1 = 6 by have : jc1 < 7 := hjc1; omega) with rfl | rfl | rfl | rfl | rfl | rfl | rfl
      · have hyp := hyp.2.1 c1
        refine cr_aload_n h (j := 0) rfl rfl dX9_count_44 ?_
        refine cr_getI h (k := 13) cr_clsX9 (by decide) rfl rfl wf_X9_46 (by decide) rfl dX9_count_45 ?_
        refine cr_iret h rfl rfl rfl dX9_count_48 ?_
        exact hK _ _ hyp
      · have hyp := hyp.2.2.1 c1
        refine cr_aload_n h (j := 0) rfl rfl dX9_count_49 ?_
        refine cr_getI h (k := 18) cr_clsX9 (by decide) rfl rfl wf_X9_254 (by decide) rfl dX9_count_50 ?_
        refine cr_iret h rfl rfl rfl dX9_count_53 ?_
        exact hK _ _ hyp
      · have hyp := hyp.2.2.2.1 c1
        refine cr_aload_n h (j := 0) rfl rfl dX9_count_54 ?_
        refine cr_getI h (k := 24) cr_clsX9 (by decide) rfl rfl wf_X9_262 (by decide) rfl dX9_count_55 ?_
        refine cr_iret h rfl rfl rfl dX9_count_58 ?_
        exact hK _ _ hyp
      · have hyp := hyp.2.2.2.2.1 c1
        refine cr_aload_n h (j := 0) rfl rfl dX9_count_59 ?_
        refine cr_getI h (k := 34) cr_clsX9 (by decide) rfl rfl wf_X9_340 (by decide) rfl dX9_count_60 ?_
        refine cr_iret h rfl rfl rfl dX9_count_63 ?_
        exact hK _ _ hyp
      · have hyp := hyp.2.2.2.2.2.1 c1
        refine cr_aload_n h (j := 0) rfl rfl dX9_count_64 ?_
        refine cr_getI h (k := 39) cr_clsX9 (by decide) rfl rfl wf_X9_380 (by decide) rfl dX9_count_65 ?_
        refine cr_iret h rfl rfl rfl dX9_count_68 ?_
        exact hK _ _ hyp
      · have hyp := hyp.2.2.2.2.2.2.1 c1
        refine cr_aload_n h (j := 0) rfl rfl dX9_count_69 ?_
        refine cr_getI h (k := 43) cr_clsX9 (by decide) rfl rfl wf_X9_386 (by decide) rfl dX9_count_70 ?_
        refine cr_iret h rfl rfl rfl dX9_count_73 ?_
        exact hK _ _ hyp
      · have hyp := hyp.2.2.2.2.2.2.2 c1
        refine cr_aload_n h (j := 0) rfl rfl dX9_count_74 ?_
        refine cr_getI h (k := 5) cr_clsX9 (by decide) rfl rfl wf_X9_170 (by decide) rfl dX9_count_75 ?_
        refine cr_iret h rfl rfl rfl dX9_count_78 ?_
        exact hK _ _ hyp
