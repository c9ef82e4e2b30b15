theorem nb_of {x : Int32} (h : x = 0 ∨ x = 1) : narrow .boolean (.int x) = .int x := by
  rcases h with rfl | rfl <;> rfl
theorem cr_iniSys : Cond.initialized "java/lang/System" ∈ cr_GW := wI_J10
def f_yX8_isOutside (τ : Nat → Nat) (x0 : Int32) (x1 : Int32) (x2 : Int32) (I : cr_I) : Int32 := if x0 < x1 then (1 : Int32) else if x0 ≤ x2 then (0 : Int32) else (1 : Int32)
abbrev T_yX8_isOutside : cr_T := fun vs I R K => ∃ (τ : Nat → Nat) (x0 : Int32) (x1 : Int32) (x2 : Int32), R = cr_rf τ ∧ cr_tau τ ∧ vs = [.int x0, .int x1, .int x2] ∧ K (some (.int (f_yX8_isOutside τ x0 x1 x2 I))) I (cr_rf τ)
theorem C_yX8_isOutside : cr_C yX8_isOutside cX8_isOutside 3 (some .boolean) (cr_rm0 0 0) 247 247 T_yX8_isOutside := by
  refine cr_C.of (by decide +kernel) (fun vs I R K hT => ?_) (fun Γ K h vs I R hT => ?_)
  · obtain ⟨τ, x0, x1, x2, rfl, hτ, rfl, hK⟩ := hT
    exact Nat.le_of_ble_eq_true rfl
  · obtain ⟨τ, x0, x1, x2, rfl, hτ, rfl, hK⟩ := hT
    show cr_V Γ 0 [.int x0, .int x1, .int x2] [] I (cr_rf τ) 247
    refine cr_iload_n h (j := 0) rfl rfl dX8_isOutside_0 ?_
    refine cr_iload_n h (j := 1) rfl rfl dX8_isOutside_1 ?_
    refine cr_icmp_lt h (tgt := 10) (by decide) dX8_isOutside_2 (fun c1 => ?_) (fun c1 => ?_)
    · skip
      refine cr_iconst h (v := (1 : Int32)) (by decide) dX8_isOutside_10 ?_
      refine cr_goto h (tgt := 15) (by decide) dX8_isOutside_11 ?_
      refine cr_iret h rfl (by decide) rfl dX8_isOutside_15 ?_
      rw [f_yX8_isOutside, if_pos c1] at hK
      exact hK
    · skip
      refine cr_iload_n h (j := 0) rfl rfl dX8_isOutside_5 ?_
      refine cr_iload_n h (j := 2) rfl rfl dX8_isOutside_6 ?_
      refine cr_icmp_le h (tgt := 14) (by decide) dX8_isOutside_7 (fun c2 => ?_) (fun c2 => ?_)
      · skip
        refine cr_iconst h (v := (0 : Int32)) (by decide) dX8_isOutside_14 ?_
        refine cr_iret h rfl (by decide) rfl dX8_isOutside_15 ?_
        rw [f_yX8_isOutside, if_neg c1, if_pos c2] at hK
        exact hK
      · skip
        refine cr_iconst h (v := (1 : Int32)) (by decide) dX8_isOutside_10 ?_
        refine cr_goto h (tgt := 15) (by decide) dX8_isOutside_11 ?_
        refine cr_iret h rfl (by decide) rfl dX8_isOutside_15 ?_
        rw [f_yX8_isOutside, if_neg c1, if_neg c2] at hK
        exact hK
theorem nb_yX8_isOutside {τ : Nat → Nat} {x0 : Int32} {x1 : Int32} {x2 : Int32} {I : cr_I} : narrow .boolean (.int (f_yX8_isOutside τ x0 x1 x2 I)) = .int (f_yX8_isOutside τ x0 x1 x2 I) := by
  unfold f_yX8_isOutside
  first | (repeat' split) <;> first | rfl | (exact rfl)
def f_yX8_isNoMake (τ : Nat → Nat) (x0 : Int32) (I : cr_I) : Int32 := (f_yX8_isOutside τ x0 (0 : Int32) (3 : Int32) I)
abbrev T_yX8_isNoMake : cr_T := fun vs I R K => ∃ (τ : Nat → Nat) (x0 : Int32), R = cr_rf τ ∧ cr_tau τ ∧ vs = [.int x0] ∧ K (some (.int (f_yX8_isNoMake τ x0 I))) I (cr_rf τ)
theorem C_yX8_isNoMake : cr_C yX8_isNoMake cX8_isNoMake 1 (some .boolean) (cr_rm0 1 22) 247 247 T_yX8_isNoMake := by
  refine cr_C.of (by decide +kernel) (fun vs I R K hT => ?_) (fun Γ K h vs I R hT => ?_)
  · obtain ⟨τ, x0, rfl, hτ, rfl, hK⟩ := hT
    exact Nat.le_of_ble_eq_true rfl
  · obtain ⟨τ, x0, rfl, hτ, rfl, hK⟩ := hT
    show cr_V Γ 0 [.int x0] [] I (cr_rf τ) 247
    refine cr_iload_n h (j := 0) rfl rfl dX8_isNoMake_0 ?_
    refine cr_iconst h (v := (0 : Int32)) (by decide) dX8_isNoMake_1 ?_
    refine cr_iconst h (v := (3 : Int32)) (by decide) dX8_isNoMake_2 ?_
    refine cr_callS h C_yX8_isOutside cZ_yX8_isOutside wm_X8_55 ws_yX8_isOutside (cr_rmS (by decide) (by decide)) (As := [.int x0, .int (0 : Int32), .int (3 : Int32)]) rfl (Nat.le_of_ble_eq_true rfl) dX8_isNoMake_3 ⟨τ, x0, (0 : Int32), (3 : Int32), rfl, hτ, rfl, ?_⟩
    show cr_V Γ 6 [.int x0] [.int (f_yX8_isOutside τ x0 (0 : Int32) (3 : Int32) I)] I (cr_rf τ) 247
    refine cr_iret h rfl (nb_yX8_isOutside) rfl dX8_isNoMake_6 ?_
    rw [f_yX8_isNoMake] at hK
    exact hK
theorem nb_yX8_isNoMake {τ : Nat → Nat} {x0 : Int32} {I : cr_I} : narrow .boolean (.int (f_yX8_isNoMake τ x0 I)) = .int (f_yX8_isNoMake τ x0 I) := by
  unfold f_yX8_isNoMake
  first | (repeat' split) <;> first | rfl | (exact nb_yX8_isOutside)
def f_yX8_isNoPerson (τ : Nat → Nat) (x0 : Int32) (I : cr_I) : Int32 := (f_yX8_isOutside τ x0 (0 : Int32) (5 : Int32) I)
abbrev T_yX8_isNoPerson : cr_T := fun vs I R K => ∃ (τ : Nat → Nat) (x0 : Int32), R = cr_rf τ ∧ cr_tau τ ∧ vs = [.int x0] ∧ K (some (.int (f_yX8_isNoPerson τ x0 I))) I (cr_rf τ)
theorem C_yX8_isNoPerson : cr_C yX8_isNoPerson cX8_isNoPerson 1 (some .boolean) (cr_rm0 1 22) 247 247 T_yX8_isNoPerson := by
  refine cr_C.of (by decide +kernel) (fun vs I R K hT => ?_) (fun Γ K h vs I R hT => ?_)
  · obtain ⟨τ, x0, rfl, hτ, rfl, hK⟩ := hT
    exact Nat.le_of_ble_eq_true rfl
  · obtain ⟨τ, x0, rfl, hτ, rfl, hK⟩ := hT
    show cr_V Γ 0 [.int x0] [] I (cr_rf τ) 247
    refine cr_iload_n h (j := 0) rfl rfl dX8_isNoPerson_0 ?_
    refine cr_iconst h (v := (0 : Int32)) (by decide) dX8_isNoPerson_1 ?_
    refine cr_iconst h (v := (5 : Int32)) (by decide) dX8_isNoPerson_2 ?_
    refine cr_callS h C_yX8_isOutside cZ_yX8_isOutside wm_X8_55 ws_yX8_isOutside (cr_rmS (by decide) (by decide)) (As := [.int x0, .int (0 : Int32), .int (5 : Int32)]) rfl (Nat.le_of_ble_eq_true rfl) dX8_isNoPerson_3 ⟨τ, x0, (0 : Int32), (5 : Int32), rfl, hτ, rfl, ?_⟩
    show cr_V Γ 6 [.int x0] [.int (f_yX8_isOutside τ x0 (0 : Int32) (5 : Int32) I)] I (cr_rf τ) 247
    refine cr_iret h rfl (nb_yX8_isOutside) rfl dX8_isNoPerson_6 ?_
    rw [f_yX8_isNoPerson] at hK
    exact hK
theorem nb_yX8_isNoPerson {τ : Nat → Nat} {x0 : Int32} {I : cr_I} : narrow .boolean (.int (f_yX8_isNoPerson τ x0 I)) = .int (f_yX8_isNoPerson τ x0 I) := by
  unfold f_yX8_isNoPerson
  first | (repeat' split) <;> first | rfl | (exact nb_yX8_isOutside)
def f_yX8_isNoClock (τ : Nat → Nat) (x0 : Int32) (I : cr_I) : Int32 := (f_yX8_isOutside τ x0 (0 : Int32) (5 : Int32) I)
abbrev T_yX8_isNoClock : cr_T := fun vs I R K => ∃ (τ : Nat → Nat) (x0 : Int32), R = cr_rf τ ∧ cr_tau τ ∧ vs = [.int x0] ∧ K (some (.int (f_yX8_isNoClock τ x0 I))) I (cr_rf τ)
theorem C_yX8_isNoClock : cr_C yX8_isNoClock cX8_isNoClock 1 (some .boolean) (cr_rm0 1 22) 247 247 T_yX8_isNoClock := by
  refine cr_C.of (by decide +kernel) (fun vs I R K hT => ?_) (fun Γ K h vs I R hT => ?_)
  · obtain ⟨τ, x0, rfl, hτ, rfl, hK⟩ := hT
    exact Nat.le_of_ble_eq_true rfl
  · obtain ⟨τ, x0, rfl, hτ, rfl, hK⟩ := hT
    show cr_V Γ 0 [.int x0] [] I (cr_rf τ) 247
    refine cr_iload_n h (j := 0) rfl rfl dX8_isNoClock_0 ?_
    refine cr_iconst h (v := (0 : Int32)) (by decide) dX8_isNoClock_1 ?_
    refine cr_iconst h (v := (5 : Int32)) (by decide) dX8_isNoClock_2 ?_
    refine cr_callS h C_yX8_isOutside cZ_yX8_isOutside wm_X8_55 ws_yX8_isOutside (cr_rmS (by decide) (by decide)) (As := [.int x0, .int (0 : Int32), .int (5 : Int32)]) rfl (Nat.le_of_ble_eq_true rfl) dX8_isNoClock_3 ⟨τ, x0, (0 : Int32), (5 : Int32), rfl, hτ, rfl, ?_⟩
    show cr_V Γ 6 [.int x0] [.int (f_yX8_isOutside τ x0 (0 : Int32) (5 : Int32) I)] I (cr_rf τ) 247
    refine cr_iret h rfl (nb_yX8_isOutside) rfl dX8_isNoClock_6 ?_
    rw [f_yX8_isNoClock] at hK
    exact hK
theorem nb_yX8_isNoClock {τ : Nat → Nat} {x0 : Int32} {I : cr_I} : narrow .boolean (.int (f_yX8_isNoClock τ x0 I)) = .int (f_yX8_isNoClock τ x0 I) := by
  unfold f_yX8_isNoClock
  first | (repeat' split) <;> first | rfl | (exact nb_yX8_isOutside)
def f_yX8_isNoEvent (τ : Nat → Nat) (x1 : Int32) (I : cr_I) : Int32 := (f_yX8_isOutside τ x1 (0 : Int32) ((I 185 1) - (1 : Int32)) I)
abbrev T_yX8_isNoEvent : cr_T := fun vs I R K => ∃ (τ : Nat → Nat) (x1 : Int32), R = cr_rf τ ∧ cr_tau τ ∧ vs = [.ref 0, .int x1] ∧ K (some (.int (f_yX8_isNoEvent τ x1 I))) I (cr_rf τ)
theorem C_yX8_isNoEvent : cr_C yX8_isNoEvent cX8_isNoEvent 2 (some .boolean) (cr_rm0 1 22) 247 247 T_yX8_isNoEvent := by
  refine cr_C.of (by decide +kernel) (fun vs I R K hT => ?_) (fun Γ K h vs I R hT => ?_)
  · obtain ⟨τ, x1, rfl, hτ, rfl, hK⟩ := hT
    exact Nat.le_of_ble_eq_true rfl
  · obtain ⟨τ, x1, rfl, hτ, rfl, hK⟩ := hT
    show cr_V Γ 0 [.ref 0, .int x1] [] I (cr_rf τ) 247
    refine cr_iload_n h (j := 1) rfl rfl dX8_isNoEvent_0 ?_
    refine cr_iconst h (v := (0 : Int32)) (by decide) dX8_isNoEvent_1 ?_
    refine cr_aload_n h (j := 0) rfl rfl dX8_isNoEvent_2 ?_
    refine cr_getR h (k := 5) cr_clsX8 (by decide) rfl rfl wf_X8_47 (by decide) rfl rfl dX8_isNoEvent_3 ?_
    refine cr_getI h (k := 1) cr_clsX0 (by decide) rfl rfl wf_X8_282 (by decide) rfl dX8_isNoEvent_6 ?_
    refine cr_iconst h (v := (1 : Int32)) (by decide) dX8_isNoEvent_9 ?_
    refine cr_isub h dX8_isNoEvent_10 ?_
    refine cr_callS h C_yX8_isOutside cZ_yX8_isOutside wm_X8_55 ws_yX8_isOutside (cr_rmS (by decide) (by decide)) (As := [.int x1, .int (0 : Int32), .int ((I 185 1) - (1 : Int32))]) rfl (Nat.le_of_ble_eq_true rfl) dX8_isNoEvent_11 ⟨τ, x1, (0 : Int32), ((I 185 1) - (1 : Int32)), rfl, hτ, rfl, ?_⟩
    show cr_V Γ 14 [.ref 0, .int x1] [.int (f_yX8_isOutside τ x1 (0 : Int32) ((I 185 1) - (1 : Int32)) I)] I (cr_rf τ) 247
    refine cr_iret h rfl (nb_yX8_isOutside) rfl dX8_isNoEvent_14 ?_
    rw [f_yX8_isNoEvent] at hK
    exact hK
theorem nb_yX8_isNoEvent {τ : Nat → Nat} {x1 : Int32} {I : cr_I} : narrow .boolean (.int (f_yX8_isNoEvent τ x1 I)) = .int (f_yX8_isNoEvent τ x1 I) := by
  unfold f_yX8_isNoEvent
  first | (repeat' split) <;> first | rfl | (exact nb_yX8_isOutside)
def f_yX8_isNoLorry (τ : Nat → Nat) (x1 : Int32) (I : cr_I) : Int32 := (f_yX8_isOutside τ x1 (0 : Int32) ((I 27 1) - (1 : Int32)) I)
abbrev T_yX8_isNoLorry : cr_T := fun vs I R K => ∃ (τ : Nat → Nat) (x1 : Int32), R = cr_rf τ ∧ cr_tau τ ∧ vs = [.ref 0, .int x1] ∧ K (some (.int (f_yX8_isNoLorry τ x1 I))) I (cr_rf τ)
theorem C_yX8_isNoLorry : cr_C yX8_isNoLorry cX8_isNoLorry 2 (some .boolean) (cr_rm0 1 22) 247 247 T_yX8_isNoLorry := by
  refine cr_C.of (by decide +kernel) (fun vs I R K hT => ?_) (fun Γ K h vs I R hT => ?_)
  · obtain ⟨τ, x1, rfl, hτ, rfl, hK⟩ := hT
    exact Nat.le_of_ble_eq_true rfl
  · obtain ⟨τ, x1, rfl, hτ, rfl, hK⟩ := hT
    show cr_V Γ 0 [.ref 0, .int x1] [] I (cr_rf τ) 247
    refine cr_iload_n h (j := 1) rfl rfl dX8_isNoLorry_0 ?_
    refine cr_iconst h (v := (0 : Int32)) (by decide) dX8_isNoLorry_1 ?_
    refine cr_aload_n h (j := 0) rfl rfl dX8_isNoLorry_2 ?_
    refine cr_getR h (k := 1) cr_clsX8 (by decide) rfl rfl wf_X8_19 (by decide) rfl rfl dX8_isNoLorry_3 ?_
    refine cr_getI h (k := 1) cr_clsX3 (by decide) rfl rfl wf_X8_103 (by decide) rfl dX8_isNoLorry_6 ?_
    refine cr_iconst h (v := (1 : Int32)) (by decide) dX8_isNoLorry_9 ?_
    refine cr_isub h dX8_isNoLorry_10 ?_
    refine cr_callS h C_yX8_isOutside cZ_yX8_isOutside wm_X8_55 ws_yX8_isOutside (cr_rmS (by decide) (by decide)) (As := [.int x1, .int (0 : Int32), .int ((I 27 1) - (1 : Int32))]) rfl (Nat.le_of_ble_eq_true rfl) dX8_isNoLorry_11 ⟨τ, x1, (0 : Int32), ((I 27 1) - (1 : Int32)), rfl, hτ, rfl, ?_⟩
    show cr_V Γ 14 [.ref 0, .int x1] [.int (f_yX8_isOutside τ x1 (0 : Int32) ((I 27 1) - (1 : Int32)) I)] I (cr_rf τ) 247
    refine cr_iret h rfl (nb_yX8_isOutside) rfl dX8_isNoLorry_14 ?_
    rw [f_yX8_isNoLorry] at hK
    exact hK
theorem nb_yX8_isNoLorry {τ : Nat → Nat} {x1 : Int32} {I : cr_I} : narrow .boolean (.int (f_yX8_isNoLorry τ x1 I)) = .int (f_yX8_isNoLorry τ x1 I) := by
  unfold f_yX8_isNoLorry
  first | (repeat' split) <;> first | rfl | (exact nb_yX8_isOutside)
def f_yX8_isNoFollower (τ : Nat → Nat) (x1 : Int32) (I : cr_I) : Int32 := (f_yX8_isOutside τ x1 (1 : Int32) ((I 27 1) - (1 : Int32)) I)
abbrev T_yX8_isNoFollower : cr_T := fun vs I R K => ∃ (τ : Nat → Nat) (x1 : Int32), R = cr_rf τ ∧ cr_tau τ ∧ vs = [.ref 0, .int x1] ∧ K (some (.int (f_yX8_isNoFollower τ x1 I))) I (cr_rf τ)
theorem C_yX8_isNoFollower : cr_C yX8_isNoFollower cX8_isNoFollower 2 (some .boolean) (cr_rm0 1 22) 247 247 T_yX8_isNoFollower := by
  refine cr_C.of (by decide +kernel) (fun vs I R K hT => ?_) (fun Γ K h vs I R hT => ?_)
  · obtain ⟨τ, x1, rfl, hτ, rfl, hK⟩ := hT
    exact Nat.le_of_ble_eq_true rfl
  · obtain ⟨τ, x1, rfl, hτ, rfl, hK⟩ := hT
    show cr_V Γ 0 [.ref 0, .int x1] [] I (cr_rf τ) 247
    refine cr_iload_n h (j := 1) rfl rfl dX8_isNoFollower_0 ?_
    refine cr_iconst h (v := (1 : Int32)) (by decide) dX8_isNoFollower_1 ?_
    refine cr_aload_n h (j := 0) rfl rfl dX8_isNoFollower_2 ?_
    refine cr_getR h (k := 1) cr_clsX8 (by decide) rfl rfl wf_X8_19 (by decide) rfl rfl dX8_isNoFollower_3 ?_
    refine cr_getI h (k := 1) cr_clsX3 (by decide) rfl rfl wf_X8_103 (by decide) rfl dX8_isNoFollower_6 ?_
    refine cr_iconst h (v := (1 : Int32)) (by decide) dX8_isNoFollower_9 ?_
    refine cr_isub h dX8_isNoFollower_10 ?_
    refine cr_callS h C_yX8_isOutside cZ_yX8_isOutside wm_X8_55 ws_yX8_isOutside (cr_rmS (by decide) (by decide)) (As := [.int x1, .int (1 : Int32), .int ((I 27 1) - (1 : Int32))]) rfl (Nat.le_of_ble_eq_true rfl) dX8_isNoFollower_11 ⟨τ, x1, (1 : Int32), ((I 27 1) - (1 : Int32)), rfl, hτ, rfl, ?_⟩
    show cr_V Γ 14 [.ref 0, .int x1] [.int (f_yX8_isOutside τ x1 (1 : Int32) ((I 27 1) - (1 : Int32)) I)] I (cr_rf τ) 247
    refine cr_iret h rfl (nb_yX8_isOutside) rfl dX8_isNoFollower_14 ?_
    rw [f_yX8_isNoFollower] at hK
    exact hK
theorem nb_yX8_isNoFollower {τ : Nat → Nat} {x1 : Int32} {I : cr_I} : narrow .boolean (.int (f_yX8_isNoFollower τ x1 I)) = .int (f_yX8_isNoFollower τ x1 I) := by
  unfold f_yX8_isNoFollower
  first | (repeat' split) <;> first | rfl | (exact nb_yX8_isOutside)
def f_yX8_areNoPlaces (τ : Nat → Nat) (x0 : Int32) (x1 : Int32) (I : cr_I) : Int32 := if (f_yX8_isOutside τ x0 (0 : Int32) (2000 : Int32) I) = 0 then if (f_yX8_isOutside τ x1 x0 (2000 : Int32) I) = 0 then (0 : Int32) else (1 : Int32) else (1 : Int32)
abbrev T_yX8_areNoPlaces : cr_T := fun vs I R K => ∃ (τ : Nat → Nat) (x0 : Int32) (x1 : Int32), R = cr_rf τ ∧ cr_tau τ ∧ vs = [.int x0, .int x1] ∧ K (some (.int (f_yX8_areNoPlaces τ x0 x1 I))) I (cr_rf τ)
theorem C_yX8_areNoPlaces : cr_C yX8_areNoPlaces cX8_areNoPlaces 2 (some .boolean) (cr_rm0 1 22) 247 247 T_yX8_areNoPlaces := by
  refine cr_C.of (by decide +kernel) (fun vs I R K hT => ?_) (fun Γ K h vs I R hT => ?_)
  · obtain ⟨τ, x0, x1, rfl, hτ, rfl, hK⟩ := hT
    exact Nat.le_of_ble_eq_true rfl
  · obtain ⟨τ, x0, x1, rfl, hτ, rfl, hK⟩ := hT
    show cr_V Γ 0 [.int x0, .int x1] [] I (cr_rf τ) 247
    refine cr_iload_n h (j := 0) rfl rfl dX8_areNoPlaces_0 ?_
    refine cr_iconst h (v := (0 : Int32)) (by decide) dX8_areNoPlaces_1 ?_
    refine cr_sipush h (v := (2000 : Int32)) (by decide) dX8_areNoPlaces_2 ?_
    refine cr_callS h C_yX8_isOutside cZ_yX8_isOutside wm_X8_55 ws_yX8_isOutside (cr_rmS (by decide) (by decide)) (As := [.int x0, .int (0 : Int32), .int (2000 : Int32)]) rfl (Nat.le_of_ble_eq_true rfl) dX8_areNoPlaces_5 ⟨τ, x0, (0 : Int32), (2000 : Int32), rfl, hτ, rfl, ?_⟩
    show cr_V Γ 8 [.int x0, .int x1] [.int (f_yX8_isOutside τ x0 (0 : Int32) (2000 : Int32) I)] I (cr_rf τ) 247
    refine cr_if_ne h (tgt := 22) (by decide) dX8_areNoPlaces_8 (fun c1 => ?_) (fun c1 => ?_)
    · skip
      refine cr_iconst h (v := (1 : Int32)) (by decide) dX8_areNoPlaces_22 ?_
      refine cr_goto h (tgt := 27) (by decide) dX8_areNoPlaces_23 ?_
      refine cr_iret h rfl (by decide) rfl dX8_areNoPlaces_27 ?_
      rw [f_yX8_areNoPlaces, if_neg c1] at hK
      exact hK
    · skip
      refine cr_iload_n h (j := 1) rfl rfl dX8_areNoPlaces_11 ?_
      refine cr_iload_n h (j := 0) rfl rfl dX8_areNoPlaces_12 ?_
      refine cr_sipush h (v := (2000 : Int32)) (by decide) dX8_areNoPlaces_13 ?_
      refine cr_callS h C_yX8_isOutside cZ_yX8_isOutside wm_X8_55 ws_yX8_isOutside (cr_rmS (by decide) (by decide)) (As := [.int x1, .int x0, .int (2000 : Int32)]) rfl (Nat.le_of_ble_eq_true rfl) dX8_areNoPlaces_16 ⟨τ, x1, x0, (2000 : Int32), rfl, hτ, rfl, ?_⟩
      show cr_V Γ 19 [.int x0, .int x1] [.int (f_yX8_isOutside τ x1 x0 (2000 : Int32) I)] I (cr_rf τ) 247
      refine cr_if_eq h (tgt := 26) (by decide) dX8_areNoPlaces_19 (fun c2 => ?_) (fun c2 => ?_)
      · skip
        refine cr_iconst h (v := (0 : Int32)) (by decide) dX8_areNoPlaces_26 ?_
        refine cr_iret h rfl (by decide) rfl dX8_areNoPlaces_27 ?_
        rw [f_yX8_areNoPlaces, if_pos c1, if_pos c2] at hK
        exact hK
      · skip
        refine cr_iconst h (v := (1 : Int32)) (by decide) dX8_areNoPlaces_22 ?_
        refine cr_goto h (tgt := 27) (by decide) dX8_areNoPlaces_23 ?_
        refine cr_iret h rfl (by decide) rfl dX8_areNoPlaces_27 ?_
        rw [f_yX8_areNoPlaces, if_pos c1, if_neg c2] at hK
        exact hK
theorem nb_yX8_areNoPlaces {τ : Nat → Nat} {x0 : Int32} {x1 : Int32} {I : cr_I} : narrow .boolean (.int (f_yX8_areNoPlaces τ x0 x1 I)) = .int (f_yX8_areNoPlaces τ x0 x1 I) := by
  unfold f_yX8_areNoPlaces
  first | (repeat' split) <;> first | rfl | (exact nb_yX8_isOutside)
def f_yX8_areNoChances (τ : Nat → Nat) (x0 : Int32) (x1 : Int32) (I : cr_I) : Int32 := if (f_yX8_isOutside τ x0 (0 : Int32) (4 : Int32) I) = 0 then if (f_yX8_isOutside τ x1 (0 : Int32) (2 : Int32) I) = 0 then (0 : Int32) else (1 : Int32) else (1 : Int32)
abbrev T_yX8_areNoChances : cr_T := fun vs I R K => ∃ (τ : Nat → Nat) (x0 : Int32) (x1 : Int32), R = cr_rf τ ∧ cr_tau τ ∧ vs = [.int x0, .int x1] ∧ K (some (.int (f_yX8_areNoChances τ x0 x1 I))) I (cr_rf τ)
theorem C_yX8_areNoChances : cr_C yX8_areNoChances cX8_areNoChances 2 (some .boolean) (cr_rm0 1 22) 247 247 T_yX8_areNoChances := by
  refine cr_C.of (by decide +kernel) (fun vs I R K hT => ?_) (fun Γ K h vs I R hT => ?_)
  · obtain ⟨τ, x0, x1, rfl, hτ, rfl, hK⟩ := hT
    exact Nat.le_of_ble_eq_true rfl
  · obtain ⟨τ, x0, x1, rfl, hτ, rfl, hK⟩ := hT
    show cr_V Γ 0 [.int x0, .int x1] [] I (cr_rf τ) 247
    refine cr_iload_n h (j := 0) rfl rfl dX8_areNoChances_0 ?_
    refine cr_iconst h (v := (0 : Int32)) (by decide) dX8_areNoChances_1 ?_
    refine cr_iconst h (v := (4 : Int32)) (by decide) dX8_areNoChances_2 ?_
    refine cr_callS h C_yX8_isOutside cZ_yX8_isOutside wm_X8_55 ws_yX8_isOutside (cr_rmS (by decide) (by decide)) (As := [.int x0, .int (0 : Int32), .int (4 : Int32)]) rfl (Nat.le_of_ble_eq_true rfl) dX8_areNoChances_3 ⟨τ, x0, (0 : Int32), (4 : Int32), rfl, hτ, rfl, ?_⟩
    show cr_V Γ 6 [.int x0, .int x1] [.int (f_yX8_isOutside τ x0 (0 : Int32) (4 : Int32) I)] I (cr_rf τ) 247
    refine cr_if_ne h (tgt := 18) (by decide) dX8_areNoChances_6 (fun c1 => ?_) (fun c1 => ?_)
    · skip
      refine cr_iconst h (v := (1 : Int32)) (by decide) dX8_areNoChances_18 ?_
      refine cr_goto h (tgt := 23) (by decide) dX8_areNoChances_19 ?_
      refine cr_iret h rfl (by decide) rfl dX8_areNoChances_23 ?_
      rw [f_yX8_areNoChances, if_neg c1] at hK
      exact hK
    · skip
      refine cr_iload_n h (j := 1) rfl rfl dX8_areNoChances_9 ?_
      refine cr_iconst h (v := (0 : Int32)) (by decide) dX8_areNoChances_10 ?_
      refine cr_iconst h (v := (2 : Int32)) (by decide) dX8_areNoChances_11 ?_
      refine cr_callS h C_yX8_isOutside cZ_yX8_isOutside wm_X8_55 ws_yX8_isOutside (cr_rmS (by decide) (by decide)) (As := [.int x1, .int (0 : Int32), .int (2 : Int32)]) rfl (Nat.le_of_ble_eq_true rfl) dX8_areNoChances_12 ⟨τ, x1, (0 : Int32), (2 : Int32), rfl, hτ, rfl, ?_⟩
      show cr_V Γ 15 [.int x0, .int x1] [.int (f_yX8_isOutside τ x1 (0 : Int32) (2 : Int32) I)] I (cr_rf τ) 247
      refine cr_if_eq h (tgt := 22) (by decide) dX8_areNoChances_15 (fun c2 => ?_) (fun c2 => ?_)
      · skip
        refine cr_iconst h (v := (0 : Int32)) (by decide) dX8_areNoChances_22 ?_
        refine cr_iret h rfl (by decide) rfl dX8_areNoChances_23 ?_
        rw [f_yX8_areNoChances, if_pos c1, if_pos c2] at hK
        exact hK
      · skip
        refine cr_iconst h (v := (1 : Int32)) (by decide) dX8_areNoChances_18 ?_
        refine cr_goto h (tgt := 23) (by decide) dX8_areNoChances_19 ?_
        refine cr_iret h rfl (by decide) rfl dX8_areNoChances_23 ?_
        rw [f_yX8_areNoChances, if_pos c1, if_neg c2] at hK
        exact hK
theorem nb_yX8_areNoChances {τ : Nat → Nat} {x0 : Int32} {x1 : Int32} {I : cr_I} : narrow .boolean (.int (f_yX8_areNoChances τ x0 x1 I)) = .int (f_yX8_areNoChances τ x0 x1 I) := by
  unfold f_yX8_areNoChances
  first | (repeat' split) <;> first | rfl | (exact nb_yX8_isOutside)
def f_yJ9_max_7cf53 (τ : Nat → Nat) (x0 : Int32) (x1 : Int32) (I : cr_I) : Int32 := if x0 < x1 then x1 else x0
abbrev T_yJ9_max_7cf53 : cr_T := fun vs I R K => ∃ (τ : Nat → Nat) (x0 : Int32) (x1 : Int32), R = cr_rf τ ∧ cr_tau τ ∧ vs = [.int x0, .int x1] ∧ K (some (.int (f_yJ9_max_7cf53 τ x0 x1 I))) I (cr_rf τ)
theorem C_yJ9_max_7cf53 : cr_C yJ9_max_7cf53 cJ9_max_7cf53 2 (some .int) (cr_rm0 0 0) 247 247 T_yJ9_max_7cf53 := by
  refine cr_C.of (by decide +kernel) (fun vs I R K hT => ?_) (fun Γ K h vs I R hT => ?_)
  · obtain ⟨τ, x0, x1, rfl, hτ, rfl, hK⟩ := hT
    exact Nat.le_of_ble_eq_true rfl
  · obtain ⟨τ, x0, x1, rfl, hτ, rfl, hK⟩ := hT
    show cr_V Γ 0 [.int x0, .int x1] [] I (cr_rf τ) 247
    refine cr_iload_n h (j := 0) rfl rfl dJ9_max_7cf53_0 ?_
    refine cr_iload_n h (j := 1) rfl rfl dJ9_max_7cf53_1 ?_
    refine cr_icmp_lt h (tgt := 9) (by decide) dJ9_max_7cf53_2 (fun c1 => ?_) (fun c1 => ?_)
    · skip
      refine cr_iload_n h (j := 1) rfl rfl dJ9_max_7cf53_9 ?_
      refine cr_iret h rfl rfl rfl dJ9_max_7cf53_10 ?_
      rw [f_yJ9_max_7cf53, if_pos c1] at hK
      exact hK
    · skip
      refine cr_iload_n h (j := 0) rfl rfl dJ9_max_7cf53_5 ?_
      refine cr_goto h (tgt := 10) (by decide) dJ9_max_7cf53_6 ?_
      refine cr_iret h rfl rfl rfl dJ9_max_7cf53_10 ?_
      rw [f_yJ9_max_7cf53, if_neg c1] at hK
      exact hK
def f_yJ9_min_7cf53 (τ : Nat → Nat) (x0 : Int32) (x1 : Int32) (I : cr_I) : Int32 := if x1 < x0 then x1 else x0
abbrev T_yJ9_min_7cf53 : cr_T := fun vs I R K => ∃ (τ : Nat → Nat) (x0 : Int32) (x1 : Int32), R = cr_rf τ ∧ cr_tau τ ∧ vs = [.int x0, .int x1] ∧ K (some (.int (f_yJ9_min_7cf53 τ x0 x1 I))) I (cr_rf τ)
theorem C_yJ9_min_7cf53 : cr_C yJ9_min_7cf53 cJ9_min_7cf53 2 (some .int) (cr_rm0 0 0) 247 247 T_yJ9_min_7cf53 := by
  refine cr_C.of (by decide +kernel) (fun vs I R K hT => ?_) (fun Γ K h vs I R hT => ?_)
  · obtain ⟨τ, x0, x1, rfl, hτ, rfl, hK⟩ := hT
    exact Nat.le_of_ble_eq_true rfl
  · obtain ⟨τ, x0, x1, rfl, hτ, rfl, hK⟩ := hT
    show cr_V Γ 0 [.int x0, .int x1] [] I (cr_rf τ) 247
    refine cr_iload_n h (j := 0) rfl rfl dJ9_min_7cf53_0 ?_
    refine cr_iload_n h (j := 1) rfl rfl dJ9_min_7cf53_1 ?_
    refine cr_icmp_gt h (tgt := 9) (by decide) dJ9_min_7cf53_2 (fun c1 => ?_) (fun c1 => ?_)
    · skip
      refine cr_iload_n h (j := 1) rfl rfl dJ9_min_7cf53_9 ?_
      refine cr_iret h rfl rfl rfl dJ9_min_7cf53_10 ?_
      rw [f_yJ9_min_7cf53, if_pos c1] at hK
      exact hK
    · skip
      refine cr_iload_n h (j := 0) rfl rfl dJ9_min_7cf53_5 ?_
      refine cr_goto h (tgt := 10) (by decide) dJ9_min_7cf53_6 ?_
      refine cr_iret h rfl rfl rfl dJ9_min_7cf53_10 ?_
      rw [f_yJ9_min_7cf53, if_neg c1] at hK
      exact hK
def f_yJ9_floorDiv_7cf53 (τ : Nat → Nat) (x0 : Int32) (x1 : Int32) (I : cr_I) : Int32 := if 0 ≤ (x0 ^^^ x1) then ((x0 / x1)) else if (((x0 / x1)) * x1) = x0 then ((x0 / x1)) else (((x0 / x1)) - (1 : Int32))
def p_yJ9_floorDiv_7cf53 (τ : Nat → Nat) (x0 : Int32) (x1 : Int32) (I : cr_I) : Prop := ¬ x1 = 0 ∧ ∀ v1 : Int32, v1 = (x0 / x1) → (0 ≤ (x0 ^^^ x1) → True) ∧ (¬ 0 ≤ (x0 ^^^ x1) → (((v1 * x1) = x0 → True) ∧ (¬ (v1 * x1) = x0 → True)))
abbrev T_yJ9_floorDiv_7cf53 : cr_T := fun vs I R K => ∃ (τ : Nat → Nat) (x0 : Int32) (x1 : Int32), R = cr_rf τ ∧ cr_tau τ ∧ vs = [.int x0, .int x1] ∧ p_yJ9_floorDiv_7cf53 τ x0 x1 I ∧ K (some (.int (f_yJ9_floorDiv_7cf53 τ x0 x1 I))) I (cr_rf τ)
theorem C_yJ9_floorDiv_7cf53 : cr_C yJ9_floorDiv_7cf53 cJ9_floorDiv_7cf53 3 (some .int) (cr_rm0 0 0) 247 247 T_yJ9_floorDiv_7cf53 := by
  refine cr_C.of (by decide +kernel) (fun vs I R K hT => ?_) (fun Γ K h vs I R hT => ?_)
  · obtain ⟨τ, x0, x1, rfl, hτ, rfl, hyp, hK⟩ := hT
    exact Nat.le_of_ble_eq_true rfl
  · obtain ⟨τ, x0, x1, rfl, hτ, rfl, hyp, hK⟩ := hT
    show cr_V Γ 0 [.int x0, .int x1, .null] [] I (cr_rf τ) 247
    refine cr_iload_n h (j := 0) rfl rfl dJ9_floorDiv_7cf53_0 ?_
    refine cr_iload_n h (j := 1) rfl rfl dJ9_floorDiv_7cf53_1 ?_
    refine cr_idiv h hyp.1 dJ9_floorDiv_7cf53_2 ?_
    have hyp := hyp.2
    refine cs_i_n h 2 rfl (by decide) rfl dJ9_floorDiv_7cf53_3 (fun v1 ev1 => ?_)
    have hyp := hyp v1 ev1
    show cr_V Γ 4 [.int x0, .int x1, .int v1] [] I (cr_rf τ) 247
    refine cr_iload_n h (j := 0) rfl rfl dJ9_floorDiv_7cf53_4 ?_
    refine cr_iload_n h (j := 1) rfl rfl dJ9_floorDiv_7cf53_5 ?_
    refine cr_ixor h dJ9_floorDiv_7cf53_6 ?_
    refine cr_if_ge h (tgt := 21) (by decide) dJ9_floorDiv_7cf53_7 (fun c1 => ?_) (fun c1 => ?_)
    · have hyp := hyp.1 c1
      refine cr_iload_n h (j := 2) rfl rfl dJ9_floorDiv_7cf53_21 ?_
      refine cr_iret h rfl rfl rfl dJ9_floorDiv_7cf53_22 ?_
      subst ev1
      rw [f_yJ9_floorDiv_7cf53, if_pos c1] at hK
      exact hK
    · have hyp := hyp.2 c1
      refine cr_iload_n h (j := 2) rfl rfl dJ9_floorDiv_7cf53_10 ?_
      refine cr_iload_n h (j := 1) rfl rfl dJ9_floorDiv_7cf53_11 ?_
      refine cr_imul h dJ9_floorDiv_7cf53_12 ?_
      refine cr_iload_n h (j := 0) rfl rfl dJ9_floorDiv_7cf53_13 ?_
      refine cr_icmp_eq h (tgt := 21) (by decide) dJ9_floorDiv_7cf53_14 (fun c2 => ?_) (fun c2 => ?_)
      · have hyp := hyp.1 c2
        refine cr_iload_n h (j := 2) rfl rfl dJ9_floorDiv_7cf53_21 ?_
        refine cr_iret h rfl rfl rfl dJ9_floorDiv_7cf53_22 ?_
        subst ev1
        rw [f_yJ9_floorDiv_7cf53, if_neg c1, if_pos c2] at hK
        exact hK
      · have hyp := hyp.2 c2
        refine cr_iload_n h (j := 2) rfl rfl dJ9_floorDiv_7cf53_17 ?_
        refine cr_iconst h (v := (1 : Int32)) (by decide) dJ9_floorDiv_7cf53_18 ?_
        refine cr_isub h dJ9_floorDiv_7cf53_19 ?_
        refine cr_iret h rfl rfl rfl dJ9_floorDiv_7cf53_20 ?_
        subst ev1
        rw [f_yJ9_floorDiv_7cf53, if_neg c1, if_neg c2] at hK
        exact hK
def f_yJ9_floorMod_7cf53 (τ : Nat → Nat) (x0 : Int32) (x1 : Int32) (I : cr_I) : Int32 := if 0 ≤ (x0 ^^^ x1) then ((x0 - x0 / x1 * x1)) else if ((x0 - x0 / x1 * x1)) = 0 then ((x0 - x0 / x1 * x1)) else (((x0 - x0 / x1 * x1)) + x1)
def p_yJ9_floorMod_7cf53 (τ : Nat → Nat) (x0 : Int32) (x1 : Int32) (I : cr_I) : Prop := ¬ x1 = 0 ∧ ∀ v1 : Int32, v1 = (x0 - x0 / x1 * x1) → (0 ≤ (x0 ^^^ x1) → True) ∧ (¬ 0 ≤ (x0 ^^^ x1) → ((v1 = 0 → True) ∧ (¬ v1 = 0 → True)))
abbrev T_yJ9_floorMod_7cf53 : cr_T := fun vs I R K => ∃ (τ : Nat → Nat) (x0 : Int32) (x1 : Int32), R = cr_rf τ ∧ cr_tau τ ∧ vs = [.int x0, .int x1] ∧ p_yJ9_floorMod_7cf53 τ x0 x1 I ∧ K (some (.int (f_yJ9_floorMod_7cf53 τ x0 x1 I))) I (cr_rf τ)
theorem C_yJ9_floorMod_7cf53 : cr_C yJ9_floorMod_7cf53 cJ9_floorMod_7cf53 3 (some .int) (cr_rm0 0 0) 247 247 T_yJ9_floorMod_7cf53 := by
  refine cr_C.of (by decide +kernel) (fun vs I R K hT => ?_) (fun Γ K h vs I R hT => ?_)
  · obtain ⟨τ, x0, x1, rfl, hτ, rfl, hyp, hK⟩ := hT
    exact Nat.le_of_ble_eq_true rfl
  · obtain ⟨τ, x0, x1, rfl, hτ, rfl, hyp, hK⟩ := hT
    show cr_V Γ 0 [.int x0, .int x1, .null] [] I (cr_rf τ) 247
    refine cr_iload_n h (j := 0) rfl rfl dJ9_floorMod_7cf53_0 ?_
    refine cr_iload_n h (j := 1) rfl rfl dJ9_floorMod_7cf53_1 ?_
    refine cr_irem h hyp.1 dJ9_floorMod_7cf53_2 ?_
    have hyp := hyp.2
    refine cs_i_n h 2 rfl (by decide) rfl dJ9_floorMod_7cf53_3 (fun v1 ev1 => ?_)
    have hyp := hyp v1 ev1
    show cr_V Γ 4 [.int x0, .int x1, .int v1] [] I (cr_rf τ) 247
    refine cr_iload_n h (j := 0) rfl rfl dJ9_floorMod_7cf53_4 ?_
    refine cr_iload_n h (j := 1) rfl rfl dJ9_floorMod_7cf53_5 ?_
    refine cr_ixor h dJ9_floorMod_7cf53_6 ?_
    refine cr_if_ge h (tgt := 18) (by decide) dJ9_floorMod_7cf53_7 (fun c1 => ?_) (fun c1 => ?_)
    · have hyp := hyp.1 c1
      refine cr_iload_n h (j := 2) rfl rfl dJ9_floorMod_7cf53_18 ?_
      refine cr_iret h rfl rfl rfl dJ9_floorMod_7cf53_19 ?_
      subst ev1
      rw [f_yJ9_floorMod_7cf53, if_pos c1] at hK
      exact hK
    · have hyp := hyp.2 c1
      refine cr_iload_n h (j := 2) rfl rfl dJ9_floorMod_7cf53_10 ?_
      refine cr_if_eq h (tgt := 18) (by decide) dJ9_floorMod_7cf53_11 (fun c2 => ?_) (fun c2 => ?_)
      · have hyp := hyp.1 c2
        refine cr_iload_n h (j := 2) rfl rfl dJ9_floorMod_7cf53_18 ?_
        refine cr_iret h rfl rfl rfl dJ9_floorMod_7cf53_19 ?_
        subst ev1
        rw [f_yJ9_floorMod_7cf53, if_neg c1, if_pos c2] at hK
        exact hK
      · have hyp := hyp.2 c2
        refine cr_iload_n h (j := 2) rfl rfl dJ9_floorMod_7cf53_14 ?_
        refine cr_iload_n h (j := 1) rfl rfl dJ9_floorMod_7cf53_15 ?_
        refine cr_iadd h dJ9_floorMod_7cf53_16 ?_
        refine cr_iret h rfl rfl rfl dJ9_floorMod_7cf53_17 ?_
        subst ev1
        rw [f_yJ9_floorMod_7cf53, if_neg c1, if_neg c2] at hK
        exact hK
def f_yJ6_bitCount_0f7a4 (τ : Nat → Nat) (x0 : Int32) (I : cr_I) : Int32 := (((((((((((((x0 - ((x0.toUInt32 >>> ((1 : Int32).toUInt32 &&& Int32.toUInt32 31)).toInt32 &&& (1431655765 : Int32)))) &&& (858993459 : Int32)) + ((((x0 - ((x0.toUInt32 >>> ((1 : Int32).toUInt32 &&& Int32.toUInt32 31)).toInt32 &&& (1431655765 : Int32)))).toUInt32 >>> ((2 : Int32).toUInt32 &&& Int32.toUInt32 31)).toInt32 &&& (858993459 : Int32)))) + ((((((x0 - ((x0.toUInt32 >>> ((1 : Int32).toUInt32 &&& Int32.toUInt32 31)).toInt32 &&& (1431655765 : Int32)))) &&& (858993459 : Int32)) + ((((x0 - ((x0.toUInt32 >>> ((1 : Int32).toUInt32 &&& Int32.toUInt32 31)).toInt32 &&& (1431655765 : Int32)))).toUInt32 >>> ((2 : Int32).toUInt32 &&& Int32.toUInt32 31)).toInt32 &&& (858993459 : Int32)))).toUInt32 >>> ((4 : Int32).toUInt32 &&& Int32.toUInt32 31)).toInt32) &&& (252645135 : Int32))) + (((((((((x0 - ((x0.toUInt32 >>> ((1 : Int32).toUInt32 &&& Int32.toUInt32 31)).toInt32 &&& (1431655765 : Int32)))) &&& (858993459 : Int32)) + ((((x0 - ((x0.toUInt32 >>> ((1 : Int32).toUInt32 &&& Int32.toUInt32 31)).toInt32 &&& (1431655765 : Int32)))).toUInt32 >>> ((2 : Int32).toUInt32 &&& Int32.toUInt32 31)).toInt32 &&& (858993459 : Int32)))) + ((((((x0 - ((x0.toUInt32 >>> ((1 : Int32).toUInt32 &&& Int32.toUInt32 31)).toInt32 &&& (1431655765 : Int32)))) &&& (858993459 : Int32)) + ((((x0 - ((x0.toUInt32 >>> ((1 : Int32).toUInt32 &&& Int32.toUInt32 31)).toInt32 &&& (1431655765 : Int32)))).toUInt32 >>> ((2 : Int32).toUInt32 &&& Int32.toUInt32 31)).toInt32 &&& (858993459 : Int32)))).toUInt32 >>> ((4 : Int32).toUInt32 &&& Int32.toUInt32 31)).toInt32) &&& (252645135 : Int32))).toUInt32 >>> ((8 : Int32).toUInt32 &&& Int32.toUInt32 31)).toInt32)) + (((((((((((x0 - ((x0.toUInt32 >>> ((1 : Int32).toUInt32 &&& Int32.toUInt32 31)).toInt32 &&& (1431655765 : Int32)))) &&& (858993459 : Int32)) + ((((x0 - ((x0.toUInt32 >>> ((1 : Int32).toUInt32 &&& Int32.toUInt32 31)).toInt32 &&& (1431655765 : Int32)))).toUInt32 >>> ((2 : Int32).toUInt32 &&& Int32.toUInt32 31)).toInt32 &&& (858993459 : Int32)))) + ((((((x0 - ((x0.toUInt32 >>> ((1 : Int32).toUInt32 &&& Int32.toUInt32 31)).toInt32 &&& (1431655765 : Int32)))) &&& (858993459 : Int32)) + ((((x0 - ((x0.toUInt32 >>> ((1 : Int32).toUInt32 &&& Int32.toUInt32 31)).toInt32 &&& (1431655765 : Int32)))).toUInt32 >>> ((2 : Int32).toUInt32 &&& Int32.toUInt32 31)).toInt32 &&& (858993459 : Int32)))).toUInt32 >>> ((4 : Int32).toUInt32 &&& Int32.toUInt32 31)).toInt32) &&& (252645135 : Int32))) + (((((((((x0 - ((x0.toUInt32 >>> ((1 : Int32).toUInt32 &&& Int32.toUInt32 31)).toInt32 &&& (1431655765 : Int32)))) &&& (858993459 : Int32)) + ((((x0 - ((x0.toUInt32 >>> ((1 : Int32).toUInt32 &&& Int32.toUInt32 31)).toInt32 &&& (1431655765 : Int32)))).toUInt32 >>> ((2 : Int32).toUInt32 &&& Int32.toUInt32 31)).toInt32 &&& (858993459 : Int32)))) + ((((((x0 - ((x0.toUInt32 >>> ((1 : Int32).toUInt32 &&& Int32.toUInt32 31)).toInt32 &&& (1431655765 : Int32)))) &&& (858993459 : Int32)) + ((((x0 - ((x0.toUInt32 >>> ((1 : Int32).toUInt32 &&& Int32.toUInt32 31)).toInt32 &&& (1431655765 : Int32)))).toUInt32 >>> ((2 : Int32).toUInt32 &&& Int32.toUInt32 31)).toInt32 &&& (858993459 : Int32)))).toUInt32 >>> ((4 : Int32).toUInt32 &&& Int32.toUInt32 31)).toInt32) &&& (252645135 : Int32))).toUInt32 >>> ((8 : Int32).toUInt32 &&& Int32.toUInt32 31)).toInt32)).toUInt32 >>> ((16 : Int32).toUInt32 &&& Int32.toUInt32 31)).toInt32)) &&& (63 : Int32))
abbrev T_yJ6_bitCount_0f7a4 : cr_T := fun vs I R K => ∃ (τ : Nat → Nat) (x0 : Int32), R = cr_rf τ ∧ cr_tau τ ∧ vs = [.int x0] ∧ K (some (.int (f_yJ6_bitCount_0f7a4 τ x0 I))) I (cr_rf τ)
theorem C_yJ6_bitCount_0f7a4 : cr_C yJ6_bitCount_0f7a4 cJ6_bitCount_0f7a4 1 (some .int) (cr_rm0 0 0) 247 247 T_yJ6_bitCount_0f7a4 := by
  refine cr_C.of (by decide +kernel) (fun vs I R K hT => ?_) (fun Γ K h vs I R hT => ?_)
  · obtain ⟨τ, x0, rfl, hτ, rfl, hK⟩ := hT
    exact Nat.le_of_ble_eq_true rfl
  · obtain ⟨τ, x0, rfl, hτ, rfl, hK⟩ := hT
    show cr_V Γ 0 [.int x0] [] I (cr_rf τ) 247
    refine cr_iload_n h (j := 0) rfl rfl dJ6_bitCount_0f7a4_0 ?_
    refine cr_iload_n h (j := 0) rfl rfl dJ6_bitCount_0f7a4_1 ?_
    refine cr_iconst h (v := (1 : Int32)) (by decide) dJ6_bitCount_0f7a4_2 ?_
    refine cr_iushr h dJ6_bitCount_0f7a4_3 ?_
    refine cr_ldcw h wc_J6_265 dJ6_bitCount_0f7a4_4 ?_
    refine cr_iand h dJ6_bitCount_0f7a4_7 ?_
    refine cr_isub h dJ6_bitCount_0f7a4_8 ?_
    refine cs_i_n h 0 rfl (by decide) rfl dJ6_bitCount_0f7a4_9 (fun v1 ev1 => ?_)
    show cr_V Γ 10 [.int v1] [] I (cr_rf τ) 247
    refine cr_iload_n h (j := 0) rfl rfl dJ6_bitCount_0f7a4_10 ?_
    refine cr_ldcw h wc_J6_266 dJ6_bitCount_0f7a4_11 ?_
    refine cr_iand h dJ6_bitCount_0f7a4_14 ?_
    refine cr_iload_n h (j := 0) rfl rfl dJ6_bitCount_0f7a4_15 ?_
    refine cr_iconst h (v := (2 : Int32)) (by decide) dJ6_bitCount_0f7a4_16 ?_
    refine cr_iushr h dJ6_bitCount_0f7a4_17 ?_
    refine cr_ldcw h wc_J6_266 dJ6_bitCount_0f7a4_18 ?_
    refine cr_iand h dJ6_bitCount_0f7a4_21 ?_
    refine cr_iadd h dJ6_bitCount_0f7a4_22 ?_
    refine cs_i_n h 0 rfl (by decide) rfl dJ6_bitCount_0f7a4_23 (fun v2 ev2 => ?_)
    show cr_V Γ 24 [.int v2] [] I (cr_rf τ) 247
    refine cr_iload_n h (j := 0) rfl rfl dJ6_bitCount_0f7a4_24 ?_
    refine cr_iload_n h (j := 0) rfl rfl dJ6_bitCount_0f7a4_25 ?_
    refine cr_iconst h (v := (4 : Int32)) (by decide) dJ6_bitCount_0f7a4_26 ?_
    refine cr_iushr h dJ6_bitCount_0f7a4_27 ?_
    refine cr_iadd h dJ6_bitCount_0f7a4_28 ?_
    refine cr_ldcw h wc_J6_267 dJ6_bitCount_0f7a4_29 ?_
    refine cr_iand h dJ6_bitCount_0f7a4_32 ?_
    refine cs_i_n h 0 rfl (by decide) rfl dJ6_bitCount_0f7a4_33 (fun v3 ev3 => ?_)
    show cr_V Γ 34 [.int v3] [] I (cr_rf τ) 247
    refine cr_iload_n h (j := 0) rfl rfl dJ6_bitCount_0f7a4_34 ?_
    refine cr_iload_n h (j := 0) rfl rfl dJ6_bitCount_0f7a4_35 ?_
    refine cr_bipush h (v := (8 : Int32)) (by decide) dJ6_bitCount_0f7a4_36 ?_
    refine cr_iushr h dJ6_bitCount_0f7a4_38 ?_
    refine cr_iadd h dJ6_bitCount_0f7a4_39 ?_
    refine cs_i_n h 0 rfl (by decide) rfl dJ6_bitCount_0f7a4_40 (fun v4 ev4 => ?_)
    show cr_V Γ 41 [.int v4] [] I (cr_rf τ) 247
    refine cr_iload_n h (j := 0) rfl rfl dJ6_bitCount_0f7a4_41 ?_
    refine cr_iload_n h (j := 0) rfl rfl dJ6_bitCount_0f7a4_42 ?_
    refine cr_bipush h (v := (16 : Int32)) (by decide) dJ6_bitCount_0f7a4_43 ?_
    refine cr_iushr h dJ6_bitCount_0f7a4_45 ?_
    refine cr_iadd h dJ6_bitCount_0f7a4_46 ?_
    refine cs_i_n h 0 rfl (by decide) rfl dJ6_bitCount_0f7a4_47 (fun v5 ev5 => ?_)
    show cr_V Γ 48 [.int v5] [] I (cr_rf τ) 247
    refine cr_iload_n h (j := 0) rfl rfl dJ6_bitCount_0f7a4_48 ?_
    refine cr_bipush h (v := (63 : Int32)) (by decide) dJ6_bitCount_0f7a4_49 ?_
    refine cr_iand h dJ6_bitCount_0f7a4_51 ?_
    refine cr_iret h rfl rfl rfl dJ6_bitCount_0f7a4_52 ?_
    subst ev1
    subst ev2
    subst ev3
    subst ev4
    subst ev5
    rw [f_yJ6_bitCount_0f7a4] at hK
    exact hK
def f_yX2_bounded (τ : Nat → Nat) (b : Nat) (x1 : Int32) (I : cr_I) : Int32 := (f_yJ9_max_7cf53 τ (-(I b 1)) (f_yJ9_min_7cf53 τ (I b 2) x1 I) I)
abbrev T_yX2_bounded : cr_T := fun vs I R K => ∃ (τ : Nat → Nat) (b : Nat) (x1 : Int32), R = cr_rf τ ∧ cr_tau τ ∧ vs = [.ref b, .int x1] ∧ (b < 247 ∧ cr_kd b = (5, 5)) ∧ K (some (.int (f_yX2_bounded τ b x1 I))) I (cr_rf τ)
theorem C_yX2_bounded : cr_C yX2_bounded cX2_bounded 2 (some .int) (cr_rm0 1 21) 247 247 T_yX2_bounded := by
  refine cr_C.of (by decide +kernel) (fun vs I R K hT => ?_) (fun Γ K h vs I R hT => ?_)
  · obtain ⟨τ, b, x1, rfl, hτ, rfl, hb, hK⟩ := hT
    exact Nat.le_of_ble_eq_true rfl
  · obtain ⟨τ, b, x1, rfl, hτ, rfl, hb, hK⟩ := hT
    show cr_V Γ 0 [.ref b, .int x1] [] I (cr_rf τ) 247
    refine cr_aload_n h (j := 0) rfl rfl dX2_bounded_0 ?_
    refine cr_getI h (k := 1) cr_clsX2 (by decide) rfl rfl wf_X2_13 hb.1 hb.2 dX2_bounded_1 ?_
    refine cr_ineg h dX2_bounded_4 ?_
    refine cr_aload_n h (j := 0) rfl rfl dX2_bounded_5 ?_
    refine cr_getI h (k := 2) cr_clsX2 (by decide) rfl rfl wf_X2_16 hb.1 hb.2 dX2_bounded_6 ?_
    refine cr_iload_n h (j := 1) rfl rfl dX2_bounded_9 ?_
    refine cr_callS h C_yJ9_min_7cf53 cZ_yJ9_min_7cf53 wm_X2_29 ws_yJ9_min_7cf53 (cr_rmS (by decide) (by decide)) (As := [.int (I b 2), .int x1]) rfl (Nat.le_of_ble_eq_true rfl) dX2_bounded_10 ⟨τ, (I b 2), x1, rfl, hτ, rfl, ?_⟩
    show cr_V Γ 13 [.ref b, .int x1] [.int (f_yJ9_min_7cf53 τ (I b 2) x1 I), .int (-(I b 1))] I (cr_rf τ) 247
    refine cr_callS h C_yJ9_max_7cf53 cZ_yJ9_max_7cf53 wm_X2_35 ws_yJ9_max_7cf53 (cr_rmS (by decide) (by decide)) (As := [.int (-(I b 1)), .int (f_yJ9_min_7cf53 τ (I b 2) x1 I)]) rfl (Nat.le_of_ble_eq_true rfl) dX2_bounded_13 ⟨τ, (-(I b 1)), (f_yJ9_min_7cf53 τ (I b 2) x1 I), rfl, hτ, rfl, ?_⟩
    show cr_V Γ 16 [.ref b, .int x1] [.int (f_yJ9_max_7cf53 τ (-(I b 1)) (f_yJ9_min_7cf53 τ (I b 2) x1 I) I)] I (cr_rf τ) 247
    refine cr_iret h rfl rfl rfl dX2_bounded_16 ?_
    rw [f_yX2_bounded] at hK
    exact hK
def f_yX3_hasStrangerAhead (τ : Nat → Nat) (x1 : Int32) (x2 : Int32) (I : cr_I) : Int32 := if x1 ≤ 0 then (0 : Int32) else if x1 = (I 27 13) then if x2 < (I 27 14) then (0 : Int32) else if (I 27 15) < x2 then (0 : Int32) else (1 : Int32) else (0 : Int32)
abbrev T_yX3_hasStrangerAhead : cr_T := fun vs I R K => ∃ (τ : Nat → Nat) (x1 : Int32) (x2 : Int32), R = cr_rf τ ∧ cr_tau τ ∧ vs = [.ref 27, .int x1, .int x2] ∧ K (some (.int (f_yX3_hasStrangerAhead τ x1 x2 I))) I (cr_rf τ)
theorem C_yX3_hasStrangerAhead : cr_C yX3_hasStrangerAhead cX3_hasStrangerAhead 3 (some .boolean) (cr_rm0 0 0) 247 247 T_yX3_hasStrangerAhead := by
  refine cr_C.of (by decide +kernel) (fun vs I R K hT => ?_) (fun Γ K h vs I R hT => ?_)
  · obtain ⟨τ, x1, x2, rfl, hτ, rfl, hK⟩ := hT
    exact Nat.le_of_ble_eq_true rfl
  · obtain ⟨τ, x1, x2, rfl, hτ, rfl, hK⟩ := hT
    show cr_V Γ 0 [.ref 27, .int x1, .int x2] [] I (cr_rf τ) 247
    refine cr_iload_n h (j := 1) rfl rfl dX3_hasStrangerAhead_0 ?_
    refine cr_if_le h (tgt := 32) (by decide) dX3_hasStrangerAhead_1 (fun c1 => ?_) (fun c1 => ?_)
    · skip
      refine cr_iconst h (v := (0 : Int32)) (by decide) dX3_hasStrangerAhead_32 ?_
      refine cr_iret h rfl (by decide) rfl dX3_hasStrangerAhead_33 ?_
      rw [f_yX3_hasStrangerAhead, if_pos c1] at hK
      exact hK
    · skip
      refine cr_iload_n h (j := 1) rfl rfl dX3_hasStrangerAhead_4 ?_
      refine cr_aload_n h (j := 0) rfl rfl dX3_hasStrangerAhead_5 ?_
      refine cr_getI h (k := 13) cr_clsX3 (by decide) rfl rfl wf_X3_56 (by decide) rfl dX3_hasStrangerAhead_6 ?_
      refine cr_icmp_ne h (tgt := 32) (by decide) dX3_hasStrangerAhead_9 (fun c2 => ?_) (fun c2 => ?_)
      · skip
        refine cr_iconst h (v := (0 : Int32)) (by decide) dX3_hasStrangerAhead_32 ?_
        refine cr_iret h rfl (by decide) rfl dX3_hasStrangerAhead_33 ?_
        rw [f_yX3_hasStrangerAhead, if_neg c1, if_neg c2] at hK
        exact hK
      · skip
        refine cr_iload_n h (j := 2) rfl rfl dX3_hasStrangerAhead_12 ?_
        refine cr_aload_n h (j := 0) rfl rfl dX3_hasStrangerAhead_13 ?_
        refine cr_getI h (k := 14) cr_clsX3 (by decide) rfl rfl wf_X3_59 (by decide) rfl dX3_hasStrangerAhead_14 ?_
        refine cr_icmp_lt h (tgt := 32) (by decide) dX3_hasStrangerAhead_17 (fun c3 => ?_) (fun c3 => ?_)
        · skip
          refine cr_iconst h (v := (0 : Int32)) (by decide) dX3_hasStrangerAhead_32 ?_
          refine cr_iret h rfl (by decide) rfl dX3_hasStrangerAhead_33 ?_
          rw [f_yX3_hasStrangerAhead, if_neg c1, if_pos c2, if_pos c3] at hK
          exact hK
        · skip
          refine cr_iload_n h (j := 2) rfl rfl dX3_hasStrangerAhead_20 ?_
          refine cr_aload_n h (j := 0) rfl rfl dX3_hasStrangerAhead_21 ?_
          refine cr_getI h (k := 15) cr_clsX3 (by decide) rfl rfl wf_X3_62 (by decide) rfl dX3_hasStrangerAhead_22 ?_
          refine cr_icmp_gt h (tgt := 32) (by decide) dX3_hasStrangerAhead_25 (fun c4 => ?_) (fun c4 => ?_)
          · skip
            refine cr_iconst h (v := (0 : Int32)) (by decide) dX3_hasStrangerAhead_32 ?_
            refine cr_iret h rfl (by decide) rfl dX3_hasStrangerAhead_33 ?_
            rw [f_yX3_hasStrangerAhead, if_neg c1, if_pos c2, if_neg c3, if_pos c4] at hK
            exact hK
          · skip
            refine cr_iconst h (v := (1 : Int32)) (by decide) dX3_hasStrangerAhead_28 ?_
            refine cr_goto h (tgt := 33) (by decide) dX3_hasStrangerAhead_29 ?_
            refine cr_iret h rfl (by decide) rfl dX3_hasStrangerAhead_33 ?_
            rw [f_yX3_hasStrangerAhead, if_neg c1, if_pos c2, if_neg c3, if_neg c4] at hK
            exact hK
theorem nb_yX3_hasStrangerAhead {τ : Nat → Nat} {x1 : Int32} {x2 : Int32} {I : cr_I} : narrow .boolean (.int (f_yX3_hasStrangerAhead τ x1 x2 I)) = .int (f_yX3_hasStrangerAhead τ x1 x2 I) := by
  unfold f_yX3_hasStrangerAhead
  first | (repeat' split) <;> first | rfl | (exact rfl)
def f_yX3_makeOfLorry (τ : Nat → Nat) (x1 : Int32) (I : cr_I) : Nat := (29 + 25 * (I 129 x1.toNatClampNeg).toNatClampNeg)
def p_yX3_makeOfLorry (τ : Nat → Nat) (x1 : Int32) (I : cr_I) : Prop := (0 ≤ x1.toInt ∧ x1.toInt < 6) ∧ (0 ≤ (I 129 x1.toNatClampNeg).toInt ∧ (I 129 x1.toNatClampNeg).toInt < 4) ∧ True
abbrev T_yX3_makeOfLorry : cr_T := fun vs I R K => ∃ (τ : Nat → Nat) (x1 : Int32), R = cr_rf τ ∧ cr_tau τ ∧ vs = [.ref 27, .int x1] ∧ p_yX3_makeOfLorry τ x1 I ∧ K (some (.ref (f_yX3_makeOfLorry τ x1 I))) I (cr_rf τ)
theorem C_yX3_makeOfLorry : cr_C yX3_makeOfLorry cX3_makeOfLorry 2 (some (.object "CartRows$Make")) (cr_rm0 0 0) 247 247 T_yX3_makeOfLorry := by
  refine cr_C.of (by decide +kernel) (fun vs I R K hT => ?_) (fun Γ K h vs I R hT => ?_)
  · obtain ⟨τ, x1, rfl, hτ, rfl, hyp, hK⟩ := hT
    exact Nat.le_of_ble_eq_true rfl
  · obtain ⟨τ, x1, rfl, hτ, rfl, hyp, hK⟩ := hT
    show cr_V Γ 0 [.ref 27, .int x1] [] I (cr_rf τ) 247
    refine cr_aload_n h (j := 0) rfl rfl dX3_makeOfLorry_0 ?_
    refine cr_getR h (k := 0) cr_clsX3 (by decide) rfl rfl wf_X3_12 (by decide) rfl rfl dX3_makeOfLorry_1 ?_
    refine cr_aload_n h (j := 0) rfl rfl dX3_makeOfLorry_4 ?_
    refine cr_getR h (k := 2) cr_clsX3 (by decide) rfl rfl wf_X3_22 (by decide) rfl rfl dX3_makeOfLorry_5 ?_
    refine cr_iload_n h (j := 1) rfl rfl dX3_makeOfLorry_8 ?_
    refine cs_ild h (by decide) rfl hyp.1 (q := x1.toNatClampNeg) rfl dX3_makeOfLorry_9 ?_
    have hyp := hyp.2
    have hb1 := hyp.1
    have hyp := hyp.2
    refine cr_aaldM h (by decide) rfl hb1 ((kr_28 hb1).2.2.1 τ) dX3_makeOfLorry_10 ?_
    refine cr_aret h rfl (Or.inl ⟨_, rfl⟩) rfl dX3_makeOfLorry_11 ?_
    rw [f_yX3_makeOfLorry] at hK
    exact hK
def f_yX9_in (τ : Nat → Nat) (x0 : Int64) (x2 : Int64) (x4 : Int64) (I : cr_I) : Int32 := if (lg_cmp x0 x2) < 0 then (0 : Int32) else if 0 < (lg_cmp x0 x4) then (0 : Int32) else (1 : Int32)
abbrev T_yX9_in : cr_T := fun vs I R K => ∃ (τ : Nat → Nat) (x0 : Int64) (x2 : Int64) (x4 : Int64), R = cr_rf τ ∧ cr_tau τ ∧ vs = [.long x0, .long x2, .long x4] ∧ K (some (.int (f_yX9_in τ x0 x2 x4 I))) I (cr_rf τ)
theorem C_yX9_in : cr_C yX9_in cX9_in 6 (some .boolean) (cr_rm0 0 0) 247 247 T_yX9_in := by
  refine cr_C.of (by decide +kernel) (fun vs I R K hT => ?_) (fun Γ K h vs I R hT => ?_)
  · obtain ⟨τ, x0, x2, x4, rfl, hτ, rfl, hK⟩ := hT
    exact Nat.le_of_ble_eq_true rfl
  · obtain ⟨τ, x0, x2, x4, rfl, hτ, rfl, hK⟩ := hT
    show cr_V Γ 0 [.long x0, .null, .long x2, .null, .long x4, .null] [] I (cr_rf τ) 247
    refine cr_lload_n h (j := 0) rfl rfl dX9_in_0 ?_
    refine cr_lload_n h (j := 2) rfl rfl dX9_in_1 ?_
    refine cr_lcmp h dX9_in_2 ?_
    refine cr_if_lt h (tgt := 17) (by decide) dX9_in_3 (fun c1 => ?_) (fun c1 => ?_)
    · skip
      refine cr_iconst h (v := (0 : Int32)) (by decide) dX9_in_17 ?_
      refine cr_iret h rfl (by decide) rfl dX9_in_18 ?_
      rw [f_yX9_in, if_pos c1] at hK
      exact hK
    · skip
      refine cr_lload_n h (j := 0) rfl rfl dX9_in_6 ?_
      refine cr_lload h rfl dX9_in_7 ?_
      refine cr_lcmp h dX9_in_9 ?_
      refine cr_if_gt h (tgt := 17) (by decide) dX9_in_10 (fun c2 => ?_) (fun c2 => ?_)
      · skip
        refine cr_iconst h (v := (0 : Int32)) (by decide) dX9_in_17 ?_
        refine cr_iret h rfl (by decide) rfl dX9_in_18 ?_
        rw [f_yX9_in, if_neg c1, if_pos c2] at hK
        exact hK
      · skip
        refine cr_iconst h (v := (1 : Int32)) (by decide) dX9_in_13 ?_
        refine cr_goto h (tgt := 18) (by decide) dX9_in_14 ?_
        refine cr_iret h rfl (by decide) rfl dX9_in_18 ?_
        rw [f_yX9_in, if_neg c1, if_neg c2] at hK
        exact hK
theorem nb_yX9_in {τ : Nat → Nat} {x0 : Int64} {x2 : Int64} {x4 : Int64} {I : cr_I} : narrow .boolean (.int (f_yX9_in τ x0 x2 x4 I)) = .int (f_yX9_in τ x0 x2 x4 I) := by
  unfold f_yX9_in
  first | (repeat' split) <;> first | rfl | (exact rfl)
def f_yX9_isMake (τ : Nat → Nat) (x0 : Int32) (I : cr_I) : Int32 := (f_yX9_in τ x0.toInt64 (0 : Int64) (3 : Int64) I)
abbrev T_yX9_isMake : cr_T := fun vs I R K => ∃ (τ : Nat → Nat) (x0 : Int32), R = cr_rf τ ∧ cr_tau τ ∧ vs = [.int x0] ∧ K (some (.int (f_yX9_isMake τ x0 I))) I (cr_rf τ)
theorem C_yX9_isMake : cr_C yX9_isMake cX9_isMake 1 (some .boolean) (cr_rm0 1 25) 247 247 T_yX9_isMake := by
  refine cr_C.of (by decide +kernel) (fun vs I R K hT => ?_) (fun Γ K h vs I R hT => ?_)
  · obtain ⟨τ, x0, rfl, hτ, rfl, hK⟩ := hT
    exact Nat.le_of_ble_eq_true rfl
  · obtain ⟨τ, x0, rfl, hτ, rfl, hK⟩ := hT
    show cr_V Γ 0 [.int x0] [] I (cr_rf τ) 247
    refine cr_iload_n h (j := 0) rfl rfl dX9_isMake_0 ?_
    refine cr_i2l h dX9_isMake_1 ?_
    refine cr_lconst h (v := (0 : Int64)) (by decide) dX9_isMake_2 ?_
    refine cr_ldc2 h wc_X9_152 dX9_isMake_3 ?_
    refine cr_callS h C_yX9_in cZ_yX9_in wm_X9_154 ws_yX9_in (cr_rmS (by decide) (by decide)) (As := [.long x0.toInt64, .long (0 : Int64), .long (3 : Int64)]) rfl (Nat.le_of_ble_eq_true rfl) dX9_isMake_6 ⟨τ, x0.toInt64, (0 : Int64), (3 : Int64), rfl, hτ, rfl, ?_⟩
    show cr_V Γ 9 [.int x0] [.int (f_yX9_in τ x0.toInt64 (0 : Int64) (3 : Int64) I)] I (cr_rf τ) 247
    refine cr_iret h rfl (nb_yX9_in) rfl dX9_isMake_9 ?_
    rw [f_yX9_isMake] at hK
    exact hK
theorem nb_yX9_isMake {τ : Nat → Nat} {x0 : Int32} {I : cr_I} : narrow .boolean (.int (f_yX9_isMake τ x0 I)) = .int (f_yX9_isMake τ x0 I) := by
  unfold f_yX9_isMake
  first | (repeat' split) <;> first | rfl | (exact nb_yX9_in)
def f_yX9_isSix (τ : Nat → Nat) (x0 : Int32) (I : cr_I) : Int32 := (f_yX9_in τ x0.toInt64 (0 : Int64) (5 : Int64) I)
abbrev T_yX9_isSix : cr_T := fun vs I R K => ∃ (τ : Nat → Nat) (x0 : Int32), R = cr_rf τ ∧ cr_tau τ ∧ vs = [.int x0] ∧ K (some (.int (f_yX9_isSix τ x0 I))) I (cr_rf τ)
theorem C_yX9_isSix : cr_C yX9_isSix cX9_isSix 1 (some .boolean) (cr_rm0 1 25) 247 247 T_yX9_isSix := by
  refine cr_C.of (by decide +kernel) (fun vs I R K hT => ?_) (fun Γ K h vs I R hT => ?_)
  · obtain ⟨τ, x0, rfl, hτ, rfl, hK⟩ := hT
    exact Nat.le_of_ble_eq_true rfl
  · obtain ⟨τ, x0, rfl, hτ, rfl, hK⟩ := hT
    show cr_V Γ 0 [.int x0] [] I (cr_rf τ) 247
    refine cr_iload_n h (j := 0) rfl rfl dX9_isSix_0 ?_
    refine cr_i2l h dX9_isSix_1 ?_
    refine cr_lconst h (v := (0 : Int64)) (by decide) dX9_isSix_2 ?_
    refine cr_ldc2 h wc_X9_158 dX9_isSix_3 ?_
    refine cr_callS h C_yX9_in cZ_yX9_in wm_X9_154 ws_yX9_in (cr_rmS (by decide) (by decide)) (As := [.long x0.toInt64, .long (0 : Int64), .long (5 : Int64)]) rfl (Nat.le_of_ble_eq_true rfl) dX9_isSix_6 ⟨τ, x0.toInt64, (0 : Int64), (5 : Int64), rfl, hτ, rfl, ?_⟩
    show cr_V Γ 9 [.int x0] [.int (f_yX9_in τ x0.toInt64 (0 : Int64) (5 : Int64) I)] I (cr_rf τ) 247
    refine cr_iret h rfl (nb_yX9_in) rfl dX9_isSix_9 ?_
    rw [f_yX9_isSix] at hK
    exact hK
theorem nb_yX9_isSix {τ : Nat → Nat} {x0 : Int32} {I : cr_I} : narrow .boolean (.int (f_yX9_isSix τ x0 I)) = .int (f_yX9_isSix τ x0 I) := by
  unfold f_yX9_isSix
  first | (repeat' split) <;> first | rfl | (exact nb_yX9_in)
def f_yX9_lesser (τ : Nat → Nat) (x0 : Int32) (x1 : Int32) (I : cr_I) : Int32 := if x1 ≤ x0 then x1 else x0
abbrev T_yX9_lesser : cr_T := fun vs I R K => ∃ (τ : Nat → Nat) (x0 : Int32) (x1 : Int32), R = cr_rf τ ∧ cr_tau τ ∧ vs = [.int x0, .int x1] ∧ K (some (.int (f_yX9_lesser τ x0 x1 I))) I (cr_rf τ)
theorem C_yX9_lesser : cr_C yX9_lesser cX9_lesser 2 (some .int) (cr_rm0 0 0) 247 247 T_yX9_lesser := by
  refine cr_C.of (by decide +kernel) (fun vs I R K hT => ?_) (fun Γ K h vs I R hT => ?_)
  · obtain ⟨τ, x0, x1, rfl, hτ, rfl, hK⟩ := hT
    exact Nat.le_of_ble_eq_true rfl
  · obtain ⟨τ, x0, x1, rfl, hτ, rfl, hK⟩ := hT
    show cr_V Γ 0 [.int x0, .int x1] [] I (cr_rf τ) 247
    refine cr_iload_n h (j := 0) rfl rfl dX9_lesser_0 ?_
    refine cr_iload_n h (j := 1) rfl rfl dX9_lesser_1 ?_
    refine cr_icmp_ge h (tgt := 9) (by decide) dX9_lesser_2 (fun c1 => ?_) (fun c1 => ?_)
    · skip
      refine cr_iload_n h (j := 1) rfl rfl dX9_lesser_9 ?_
      refine cr_iret h rfl rfl rfl dX9_lesser_10 ?_
      rw [f_yX9_lesser, if_pos c1] at hK
      exact hK
    · skip
      refine cr_iload_n h (j := 0) rfl rfl dX9_lesser_5 ?_
      refine cr_goto h (tgt := 10) (by decide) dX9_lesser_6 ?_
      refine cr_iret h rfl rfl rfl dX9_lesser_10 ?_
      rw [f_yX9_lesser, if_neg c1] at hK
      exact hK
def f_yX9_sort (τ : Nat → Nat) (x0 : Int32) (I : cr_I) : Int32 := if x0 < (97 : Int32) then if x0 < (48 : Int32) then (0 : Int32) else if (57 : Int32) < x0 then (0 : Int32) else (2 : Int32) else if (122 : Int32) < x0 then if x0 < (48 : Int32) then (0 : Int32) else if (57 : Int32) < x0 then (0 : Int32) else (2 : Int32) else (1 : Int32)
abbrev T_yX9_sort : cr_T := fun vs I R K => ∃ (τ : Nat → Nat) (x0 : Int32), R = cr_rf τ ∧ cr_tau τ ∧ vs = [.int x0] ∧ K (some (.int (f_yX9_sort τ x0 I))) I (cr_rf τ)
theorem C_yX9_sort : cr_C yX9_sort cX9_sort 1 (some .int) (cr_rm0 0 0) 247 247 T_yX9_sort := by
  refine cr_C.of (by decide +kernel) (fun vs I R K hT => ?_) (fun Γ K h vs I R hT => ?_)
  · obtain ⟨τ, x0, rfl, hτ, rfl, hK⟩ := hT
    exact Nat.le_of_ble_eq_true rfl
  · obtain ⟨τ, x0, rfl, hτ, rfl, hK⟩ := hT
    show cr_V Γ 0 [.int x0] [] I (cr_rf τ) 247
    refine cr_iload_n h (j := 0) rfl rfl dX9_sort_0 ?_
    refine cr_bipush h (v := (97 : Int32)) (by decide) dX9_sort_1 ?_
    refine cr_icmp_lt h (tgt := 16) (by decide) dX9_sort_3 (fun c1 => ?_) (fun c1 => ?_)
    · skip
      refine cr_iload_n h (j := 0) rfl rfl dX9_sort_16 ?_
      refine cr_bipush h (v := (48 : Int32)) (by decide) dX9_sort_17 ?_
      refine cr_icmp_lt h (tgt := 32) (by decide) dX9_sort_19 (fun c2 => ?_) (fun c2 => ?_)
      · skip
        refine cr_iconst h (v := (0 : Int32)) (by decide) dX9_sort_32 ?_
        refine cr_iret h rfl rfl rfl dX9_sort_33 ?_
        rw [f_yX9_sort, if_pos c1, if_pos c2] at hK
        exact hK
      · skip
        refine cr_iload_n h (j := 0) rfl rfl dX9_sort_22 ?_
        refine cr_bipush h (v := (57 : Int32)) (by decide) dX9_sort_23 ?_
        refine cr_icmp_gt h (tgt := 32) (by decide) dX9_sort_25 (fun c3 => ?_) (fun c3 => ?_)
        · skip
          refine cr_iconst h (v := (0 : Int32)) (by decide) dX9_sort_32 ?_
          refine cr_iret h rfl rfl rfl dX9_sort_33 ?_
          rw [f_yX9_sort, if_pos c1, if_neg c2, if_pos c3] at hK
          exact hK
        · skip
          refine cr_iconst h (v := (2 : Int32)) (by decide) dX9_sort_28 ?_
          refine cr_goto h (tgt := 33) (by decide) dX9_sort_29 ?_
          refine cr_iret h rfl rfl rfl dX9_sort_33 ?_
          rw [f_yX9_sort, if_pos c1, if_neg c2, if_neg c3] at hK
          exact hK
    · skip
      refine cr_iload_n h (j := 0) rfl rfl dX9_sort_6 ?_
      refine cr_bipush h (v := (122 : Int32)) (by decide) dX9_sort_7 ?_
      refine cr_icmp_gt h (tgt := 16) (by decide) dX9_sort_9 (fun c4 => ?_) (fun c4 => ?_)
      · skip
        refine cr_iload_n h (j := 0) rfl rfl dX9_sort_16 ?_
        refine cr_bipush h (v := (48 : Int32)) (by decide) dX9_sort_17 ?_
        refine cr_icmp_lt h (tgt := 32) (by decide) dX9_sort_19 (fun c5 => ?_) (fun c5 => ?_)
        · skip
          refine cr_iconst h (v := (0 : Int32)) (by decide) dX9_sort_32 ?_
          refine cr_iret h rfl rfl rfl dX9_sort_33 ?_
          rw [f_yX9_sort, if_neg c1, if_pos c4, if_pos c5] at hK
          exact hK
        · skip
          refine cr_iload_n h (j := 0) rfl rfl dX9_sort_22 ?_
          refine cr_bipush h (v := (57 : Int32)) (by decide) dX9_sort_23 ?_
          refine cr_icmp_gt h (tgt := 32) (by decide) dX9_sort_25 (fun c6 => ?_) (fun c6 => ?_)
          · skip
            refine cr_iconst h (v := (0 : Int32)) (by decide) dX9_sort_32 ?_
            refine cr_iret h rfl rfl rfl dX9_sort_33 ?_
            rw [f_yX9_sort, if_neg c1, if_pos c4, if_neg c5, if_pos c6] at hK
            exact hK
          · skip
            refine cr_iconst h (v := (2 : Int32)) (by decide) dX9_sort_28 ?_
            refine cr_goto h (tgt := 33) (by decide) dX9_sort_29 ?_
            refine cr_iret h rfl rfl rfl dX9_sort_33 ?_
            rw [f_yX9_sort, if_neg c1, if_pos c4, if_neg c5, if_neg c6] at hK
            exact hK
      · skip
        refine cr_iconst h (v := (1 : Int32)) (by decide) dX9_sort_12 ?_
        refine cr_goto h (tgt := 33) (by decide) dX9_sort_13 ?_
        refine cr_iret h rfl rfl rfl dX9_sort_33 ?_
        rw [f_yX9_sort, if_neg c1, if_neg c4] at hK
        exact hK
def f_yX9_isLorry (τ : Nat → Nat) (x1 : Int32) (I : cr_I) : Int32 := (f_yX9_in τ x1.toInt64 (0 : Int64) (((I 200 13) - (1 : Int32)).toInt64) I)
abbrev T_yX9_isLorry : cr_T := fun vs I R K => ∃ (τ : Nat → Nat) (x1 : Int32), R = cr_rf τ ∧ cr_tau τ ∧ vs = [.ref 200, .int x1] ∧ K (some (.int (f_yX9_isLorry τ x1 I))) I (cr_rf τ)
theorem C_yX9_isLorry : cr_C yX9_isLorry cX9_isLorry 2 (some .boolean) (cr_rm0 1 25) 247 247 T_yX9_isLorry := by
  refine cr_C.of (by decide +kernel) (fun vs I R K hT => ?_) (fun Γ K h vs I R hT => ?_)
  · obtain ⟨τ, x1, rfl, hτ, rfl, hK⟩ := hT
    exact Nat.le_of_ble_eq_true rfl
  · obtain ⟨τ, x1, rfl, hτ, rfl, hK⟩ := hT
    show cr_V Γ 0 [.ref 200, .int x1] [] I (cr_rf τ) 247
    refine cr_iload_n h (j := 1) rfl rfl dX9_isLorry_0 ?_
    refine cr_i2l h dX9_isLorry_1 ?_
    refine cr_lconst h (v := (0 : Int64)) (by decide) dX9_isLorry_2 ?_
    refine cr_aload_n h (j := 0) rfl rfl dX9_isLorry_3 ?_
    refine cr_getI h (k := 13) cr_clsX9 (by decide) rfl rfl wf_X9_46 (by decide) rfl dX9_isLorry_4 ?_
    refine cr_iconst h (v := (1 : Int32)) (by decide) dX9_isLorry_7 ?_
    refine cr_isub h dX9_isLorry_8 ?_
    refine cr_i2l h dX9_isLorry_9 ?_
    refine cr_callS h C_yX9_in cZ_yX9_in wm_X9_154 ws_yX9_in (cr_rmS (by decide) (by decide)) (As := [.long x1.toInt64, .long (0 : Int64), .long ((I 200 13) - (1 : Int32)).toInt64]) rfl (Nat.le_of_ble_eq_true rfl) dX9_isLorry_10 ⟨τ, x1.toInt64, (0 : Int64), ((I 200 13) - (1 : Int32)).toInt64, rfl, hτ, rfl, ?_⟩
    show cr_V Γ 13 [.ref 200, .int x1] [.int (f_yX9_in τ x1.toInt64 (0 : Int64) (((I 200 13) - (1 : Int32)).toInt64) I)] I (cr_rf τ) 247
    refine cr_iret h rfl (nb_yX9_in) rfl dX9_isLorry_13 ?_
    rw [f_yX9_isLorry] at hK
    exact hK
theorem nb_yX9_isLorry {τ : Nat → Nat} {x1 : Int32} {I : cr_I} : narrow .boolean (.int (f_yX9_isLorry τ x1 I)) = .int (f_yX9_isLorry τ x1 I) := by
  unfold f_yX9_isLorry
  first | (repeat' split) <;> first | rfl | (exact nb_yX9_in)
def f_yX9_isStrange (τ : Nat → Nat) (x1 : Int32) (x2 : Int32) (I : cr_I) : Int32 := if (I 200 25) ≤ 0 then (0 : Int32) else if (I 200 25) = x1 then if (f_yX9_in τ x2.toInt64 ((I 200 26).toInt64) ((I 200 27).toInt64) I) = 0 then (0 : Int32) else (1 : Int32) else (0 : Int32)
abbrev T_yX9_isStrange : cr_T := fun vs I R K => ∃ (τ : Nat → Nat) (x1 : Int32) (x2 : Int32), R = cr_rf τ ∧ cr_tau τ ∧ vs = [.ref 200, .int x1, .int x2] ∧ K (some (.int (f_yX9_isStrange τ x1 x2 I))) I (cr_rf τ)
theorem C_yX9_isStrange : cr_C yX9_isStrange cX9_isStrange 3 (some .boolean) (cr_rm0 1 25) 247 247 T_yX9_isStrange := by
  refine cr_C.of (by decide +kernel) (fun vs I R K hT => ?_) (fun Γ K h vs I R hT => ?_)
  · obtain ⟨τ, x1, x2, rfl, hτ, rfl, hK⟩ := hT
    exact Nat.le_of_ble_eq_true rfl
  · obtain ⟨τ, x1, x2, rfl, hτ, rfl, hK⟩ := hT
    show cr_V Γ 0 [.ref 200, .int x1, .int x2] [] I (cr_rf τ) 247
    refine cr_aload_n h (j := 0) rfl rfl dX9_isStrange_0 ?_
    refine cr_getI h (k := 25) cr_clsX9 (by decide) rfl rfl wf_X9_268 (by decide) rfl dX9_isStrange_1 ?_
    refine cr_if_le h (tgt := 37) (by decide) dX9_isStrange_4 (fun c1 => ?_) (fun c1 => ?_)
    · skip
      refine cr_iconst h (v := (0 : Int32)) (by decide) dX9_isStrange_37 ?_
      refine cr_iret h rfl (by decide) rfl dX9_isStrange_38 ?_
      rw [f_yX9_isStrange, if_pos c1] at hK
      exact hK
    · skip
      refine cr_aload_n h (j := 0) rfl rfl dX9_isStrange_7 ?_
      refine cr_getI h (k := 25) cr_clsX9 (by decide) rfl rfl wf_X9_268 (by decide) rfl dX9_isStrange_8 ?_
      refine cr_iload_n h (j := 1) rfl rfl dX9_isStrange_11 ?_
      refine cr_icmp_ne h (tgt := 37) (by decide) dX9_isStrange_12 (fun c2 => ?_) (fun c2 => ?_)
      · skip
        refine cr_iconst h (v := (0 : Int32)) (by decide) dX9_isStrange_37 ?_
        refine cr_iret h rfl (by decide) rfl dX9_isStrange_38 ?_
        rw [f_yX9_isStrange, if_neg c1, if_neg c2] at hK
        exact hK
      · skip
        refine cr_iload_n h (j := 2) rfl rfl dX9_isStrange_15 ?_
        refine cr_i2l h dX9_isStrange_16 ?_
        refine cr_aload_n h (j := 0) rfl rfl dX9_isStrange_17 ?_
        refine cr_getI h (k := 26) cr_clsX9 (by decide) rfl rfl wf_X9_271 (by decide) rfl dX9_isStrange_18 ?_
        refine cr_i2l h dX9_isStrange_21 ?_
        refine cr_aload_n h (j := 0) rfl rfl dX9_isStrange_22 ?_
        refine cr_getI h (k := 27) cr_clsX9 (by decide) rfl rfl wf_X9_274 (by decide) rfl dX9_isStrange_23 ?_
        refine cr_i2l h dX9_isStrange_26 ?_
        refine cr_callS h C_yX9_in cZ_yX9_in wm_X9_154 ws_yX9_in (cr_rmS (by decide) (by decide)) (As := [.long x2.toInt64, .long (I 200 26).toInt64, .long (I 200 27).toInt64]) rfl (Nat.le_of_ble_eq_true rfl) dX9_isStrange_27 ⟨τ, x2.toInt64, (I 200 26).toInt64, (I 200 27).toInt64, rfl, hτ, rfl, ?_⟩
        show cr_V Γ 30 [.ref 200, .int x1, .int x2] [.int (f_yX9_in τ x2.toInt64 ((I 200 26).toInt64) ((I 200 27).toInt64) I)] I (cr_rf τ) 247
        refine cr_if_eq h (tgt := 37) (by decide) dX9_isStrange_30 (fun c3 => ?_) (fun c3 => ?_)
        · skip
          refine cr_iconst h (v := (0 : Int32)) (by decide) dX9_isStrange_37 ?_
          refine cr_iret h rfl (by decide) rfl dX9_isStrange_38 ?_
          rw [f_yX9_isStrange, if_neg c1, if_pos c2, if_pos c3] at hK
          exact hK
        · skip
          refine cr_iconst h (v := (1 : Int32)) (by decide) dX9_isStrange_33 ?_
          refine cr_goto h (tgt := 38) (by decide) dX9_isStrange_34 ?_
          refine cr_iret h rfl (by decide) rfl dX9_isStrange_38 ?_
          rw [f_yX9_isStrange, if_neg c1, if_pos c2, if_neg c3] at hK
          exact hK
theorem nb_yX9_isStrange {τ : Nat → Nat} {x1 : Int32} {x2 : Int32} {I : cr_I} : narrow .boolean (.int (f_yX9_isStrange τ x1 x2 I)) = .int (f_yX9_isStrange τ x1 x2 I) := by
  unfold f_yX9_isStrange
  first | (repeat' split) <;> first | rfl | (exact nb_yX9_in)
def f_yX9_areMishaps (τ : Nat → Nat) (x0 : Int32) (x1 : Int32) (I : cr_I) : Int32 := if (f_yX9_in τ x0.toInt64 (0 : Int64) (4 : Int64) I) = 0 then (0 : Int32) else if (f_yX9_in τ x1.toInt64 (0 : Int64) (2 : Int64) I) = 0 then (0 : Int32) else (1 : Int32)
abbrev T_yX9_areMishaps : cr_T := fun vs I R K => ∃ (τ : Nat → Nat) (x0 : Int32) (x1 : Int32), R = cr_rf τ ∧ cr_tau τ ∧ vs = [.int x0, .int x1] ∧ K (some (.int (f_yX9_areMishaps τ x0 x1 I))) I (cr_rf τ)
theorem C_yX9_areMishaps : cr_C yX9_areMishaps cX9_areMishaps 2 (some .boolean) (cr_rm0 1 25) 247 247 T_yX9_areMishaps := by
  refine cr_C.of (by decide +kernel) (fun vs I R K hT => ?_) (fun Γ K h vs I R hT => ?_)
  · obtain ⟨τ, x0, x1, rfl, hτ, rfl, hK⟩ := hT
    exact Nat.le_of_ble_eq_true rfl
  · obtain ⟨τ, x0, x1, rfl, hτ, rfl, hK⟩ := hT
    show cr_V Γ 0 [.int x0, .int x1] [] I (cr_rf τ) 247
    refine cr_iload_n h (j := 0) rfl rfl dX9_areMishaps_0 ?_
    refine cr_i2l h dX9_areMishaps_1 ?_
    refine cr_lconst h (v := (0 : Int64)) (by decide) dX9_areMishaps_2 ?_
    refine cr_ldc2 h wc_X9_248 dX9_areMishaps_3 ?_
    refine cr_callS h C_yX9_in cZ_yX9_in wm_X9_154 ws_yX9_in (cr_rmS (by decide) (by decide)) (As := [.long x0.toInt64, .long (0 : Int64), .long (4 : Int64)]) rfl (Nat.le_of_ble_eq_true rfl) dX9_areMishaps_6 ⟨τ, x0.toInt64, (0 : Int64), (4 : Int64), rfl, hτ, rfl, ?_⟩
    show cr_V Γ 9 [.int x0, .int x1] [.int (f_yX9_in τ x0.toInt64 (0 : Int64) (4 : Int64) I)] I (cr_rf τ) 247
    refine cr_if_eq h (tgt := 28) (by decide) dX9_areMishaps_9 (fun c1 => ?_) (fun c1 => ?_)
    · skip
      refine cr_iconst h (v := (0 : Int32)) (by decide) dX9_areMishaps_28 ?_
      refine cr_iret h rfl (by decide) rfl dX9_areMishaps_29 ?_
      rw [f_yX9_areMishaps, if_pos c1] at hK
      exact hK
    · skip
      refine cr_iload_n h (j := 1) rfl rfl dX9_areMishaps_12 ?_
      refine cr_i2l h dX9_areMishaps_13 ?_
      refine cr_lconst h (v := (0 : Int64)) (by decide) dX9_areMishaps_14 ?_
      refine cr_ldc2 h wc_X9_329 dX9_areMishaps_15 ?_
      refine cr_callS h C_yX9_in cZ_yX9_in wm_X9_154 ws_yX9_in (cr_rmS (by decide) (by decide)) (As := [.long x1.toInt64, .long (0 : Int64), .long (2 : Int64)]) rfl (Nat.le_of_ble_eq_true rfl) dX9_areMishaps_18 ⟨τ, x1.toInt64, (0 : Int64), (2 : Int64), rfl, hτ, rfl, ?_⟩
      show cr_V Γ 21 [.int x0, .int x1] [.int (f_yX9_in τ x1.toInt64 (0 : Int64) (2 : Int64) I)] I (cr_rf τ) 247
      refine cr_if_eq h (tgt := 28) (by decide) dX9_areMishaps_21 (fun c2 => ?_) (fun c2 => ?_)
      · skip
        refine cr_iconst h (v := (0 : Int32)) (by decide) dX9_areMishaps_28 ?_
        refine cr_iret h rfl (by decide) rfl dX9_areMishaps_29 ?_
        rw [f_yX9_areMishaps, if_neg c1, if_pos c2] at hK
        exact hK
      · skip
        refine cr_iconst h (v := (1 : Int32)) (by decide) dX9_areMishaps_24 ?_
        refine cr_goto h (tgt := 29) (by decide) dX9_areMishaps_25 ?_
        refine cr_iret h rfl (by decide) rfl dX9_areMishaps_29 ?_
        rw [f_yX9_areMishaps, if_neg c1, if_neg c2] at hK
        exact hK
theorem nb_yX9_areMishaps {τ : Nat → Nat} {x0 : Int32} {x1 : Int32} {I : cr_I} : narrow .boolean (.int (f_yX9_areMishaps τ x0 x1 I)) = .int (f_yX9_areMishaps τ x0 x1 I) := by
  unfold f_yX9_areMishaps
  first | (repeat' split) <;> first | rfl | (exact nb_yX9_in)
def f_yX9_isEvent (τ : Nat → Nat) (x1 : Int32) (I : cr_I) : Int32 := (f_yX9_in τ x1.toInt64 (0 : Int64) (((I 200 39) - (1 : Int32)).toInt64) I)
abbrev T_yX9_isEvent : cr_T := fun vs I R K => ∃ (τ : Nat → Nat) (x1 : Int32), R = cr_rf τ ∧ cr_tau τ ∧ vs = [.ref 200, .int x1] ∧ K (some (.int (f_yX9_isEvent τ x1 I))) I (cr_rf τ)
theorem C_yX9_isEvent : cr_C yX9_isEvent cX9_isEvent 2 (some .boolean) (cr_rm0 1 25) 247 247 T_yX9_isEvent := by
  refine cr_C.of (by decide +kernel) (fun vs I R K hT => ?_) (fun Γ K h vs I R hT => ?_)
  · obtain ⟨τ, x1, rfl, hτ, rfl, hK⟩ := hT
    exact Nat.le_of_ble_eq_true rfl
  · obtain ⟨τ, x1, rfl, hτ, rfl, hK⟩ := hT
    show cr_V Γ 0 [.ref 200, .int x1] [] I (cr_rf τ) 247
    refine cr_iload_n h (j := 1) rfl rfl dX9_isEvent_0 ?_
    refine cr_i2l h dX9_isEvent_1 ?_
    refine cr_lconst h (v := (0 : Int64)) (by decide) dX9_isEvent_2 ?_
    refine cr_aload_n h (j := 0) rfl rfl dX9_isEvent_3 ?_
    refine cr_getI h (k := 39) cr_clsX9 (by decide) rfl rfl wf_X9_380 (by decide) rfl dX9_isEvent_4 ?_
    refine cr_iconst h (v := (1 : Int32)) (by decide) dX9_isEvent_7 ?_
    refine cr_isub h dX9_isEvent_8 ?_
    refine cr_i2l h dX9_isEvent_9 ?_
    refine cr_callS h C_yX9_in cZ_yX9_in wm_X9_154 ws_yX9_in (cr_rmS (by decide) (by decide)) (As := [.long x1.toInt64, .long (0 : Int64), .long ((I 200 39) - (1 : Int32)).toInt64]) rfl (Nat.le_of_ble_eq_true rfl) dX9_isEvent_10 ⟨τ, x1.toInt64, (0 : Int64), ((I 200 39) - (1 : Int32)).toInt64, rfl, hτ, rfl, ?_⟩
    show cr_V Γ 13 [.ref 200, .int x1] [.int (f_yX9_in τ x1.toInt64 (0 : Int64) (((I 200 39) - (1 : Int32)).toInt64) I)] I (cr_rf τ) 247
    refine cr_iret h rfl (nb_yX9_in) rfl dX9_isEvent_13 ?_
    rw [f_yX9_isEvent] at hK
    exact hK
theorem nb_yX9_isEvent {τ : Nat → Nat} {x1 : Int32} {I : cr_I} : narrow .boolean (.int (f_yX9_isEvent τ x1 I)) = .int (f_yX9_isEvent τ x1 I) := by
  unfold f_yX9_isEvent
  first | (repeat' split) <;> first | rfl | (exact nb_yX9_in)
def f_yX9_cut (τ : Nat → Nat) (x0 : Int32) (x1 : Int32) (I : cr_I) : Int32 := if x0 < 0 then (-(((x1 - (1 : Int32)) - x0) / x1)) else (x0 / x1)
def p_yX9_cut (τ : Nat → Nat) (x0 : Int32) (x1 : Int32) (I : cr_I) : Prop := (x0 < 0 → (¬ x1 = 0 ∧ True)) ∧ (¬ x0 < 0 → (¬ x1 = 0 ∧ True))
abbrev T_yX9_cut : cr_T := fun vs I R K => ∃ (τ : Nat → Nat) (x0 : Int32) (x1 : Int32), R = cr_rf τ ∧ cr_tau τ ∧ vs = [.int x0, .int x1] ∧ p_yX9_cut τ x0 x1 I ∧ K (some (.int (f_yX9_cut τ x0 x1 I))) I (cr_rf τ)
theorem C_yX9_cut : cr_C yX9_cut cX9_cut 2 (some .int) (cr_rm0 0 0) 247 247 T_yX9_cut := by
  refine cr_C.of (by decide +kernel) (fun vs I R K hT => ?_) (fun Γ K h vs I R hT => ?_)
  · obtain ⟨τ, x0, x1, rfl, hτ, rfl, hyp, hK⟩ := hT
    exact Nat.le_of_ble_eq_true rfl
  · obtain ⟨τ, x0, x1, rfl, hτ, rfl, hyp, hK⟩ := hT
    show cr_V Γ 0 [.int x0, .int x1] [] I (cr_rf τ) 247
    refine cr_iload_n h (j := 0) rfl rfl dX9_cut_0 ?_
    refine cr_if_lt h (tgt := 10) (by decide) dX9_cut_1 (fun c1 => ?_) (fun c1 => ?_)
    · have hyp := hyp.1 c1
      refine cr_iload_n h (j := 1) rfl rfl dX9_cut_10 ?_
      refine cr_iconst h (v := (1 : Int32)) (by decide) dX9_cut_11 ?_
      refine cr_isub h dX9_cut_12 ?_
      refine cr_iload_n h (j := 0) rfl rfl dX9_cut_13 ?_
      refine cr_isub h dX9_cut_14 ?_
      refine cr_iload_n h (j := 1) rfl rfl dX9_cut_15 ?_
      refine cr_idiv h hyp.1 dX9_cut_16 ?_
      have hyp := hyp.2
      refine cr_ineg h dX9_cut_17 ?_
      refine cr_iret h rfl rfl rfl dX9_cut_18 ?_
      rw [f_yX9_cut, if_pos c1] at hK
      exact hK
    · have hyp := hyp.2 c1
      refine cr_iload_n h (j := 0) rfl rfl dX9_cut_4 ?_
      refine cr_iload_n h (j := 1) rfl rfl dX9_cut_5 ?_
      refine cr_idiv h hyp.1 dX9_cut_6 ?_
      have hyp := hyp.2
      refine cr_goto h (tgt := 18) (by decide) dX9_cut_7 ?_
      refine cr_iret h rfl rfl rfl dX9_cut_18 ?_
      rw [f_yX9_cut, if_neg c1] at hK
      exact hK
