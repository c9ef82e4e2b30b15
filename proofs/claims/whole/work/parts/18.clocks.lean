/-- nothing changed but in the blocks lo .. hi -/
def cr_fr (lo hi : Nat) (I J : cr_I) : Prop := ∀ b k, (b < lo ∨ hi < b) → J b k = I b k
theorem cr_fr.rf {lo hi : Nat} {I : cr_I} : cr_fr lo hi I I := fun _ _ _ => rfl
theorem cr_fr.up {lo hi b0 k0 : Nat} {v : Int32} {I J : cr_I} (h : cr_fr lo hi I J) (h1 : lo ≤ b0) (h2 : b0 ≤ hi) : cr_fr lo hi I (cr_up J b0 k0 v) := fun b k hb => by
  rw [cr_up_b (by omega)]
  exact h b k hb
theorem cr_fr.tr {lo hi : Nat} {I J L : cr_I} (h : cr_fr lo hi I J) (h2 : cr_fr lo hi J L) : cr_fr lo hi I L := fun b k hb => (h2 b k hb).trans (h b k hb)
def cr_mat (d : cr_M) (J : cr_I) : Prop := ∀ x y, x < 7 → y < 7 → (J (193 + x) y).toInt = d x y
theorem cr_mat_up {d : cr_M} {J : cr_I} {i j : Nat} {v : Int32} {z : Int} (h : cr_mat d J) (hv : v.toInt = z) : cr_mat (cr_up d i j z) (cr_up J (193 + i) j v) := by
  intro x y hx hy
  by_cases e : x = i ∧ y = j
  · obtain ⟨rfl, rfl⟩ := e
    rw [cr_up_s, cr_up_s, hv]
  · have e1 : cr_up J (193 + i) j v (193 + x) y = J (193 + x) y := by
      unfold cr_up
      rw [if_neg (by omega)]
    have e2 : cr_up d i j z x y = d x y := by
      unfold cr_up
      rw [if_neg e]
    rw [e1, e2]
    exact h x y hx hy
theorem cr_min {τ : Nat → Nat} {x y : Int32} {I : cr_I} : (f_yJ9_min_7cf53 τ x y I).toInt = min x.toInt y.toInt := by
  unfold f_yJ9_min_7cf53
  split
  · rename_i c
    rw [cr_lt] at c
    omega
  · rename_i c
    rw [cr_lt] at c
    omega
theorem cr_max {τ : Nat → Nat} {x y : Int32} {I : cr_I} : (f_yJ9_max_7cf53 τ x y I).toInt = max x.toInt y.toInt := by
  unfold f_yJ9_max_7cf53
  split
  · rename_i c
    rw [cr_lt] at c
    omega
  · rename_i c
    rw [cr_lt] at c
    omega
def cr_offs (I : cr_I) (c : Nat) : Int := (I 186 c).toInt
def p_yX0_startLags (τ : Nat → Nat) (I : cr_I) : Prop := ∀ c, c < 7 → 0 ≤ (I 186 c).toInt ∧ (I 186 c).toInt ≤ 60
def q_yX0_startLags (τ : Nat → Nat) (I J : cr_I) : Prop := cr_fr 193 199 I J ∧ cr_mat (fw_D0 (cr_offs I)) J
theorem bk_yX0_startLags_0 {Γ : cr_G} {K : cr_K} {τ : Nat → Nat} {I : cr_I}  (hτ : cr_tau τ)  (h : cr_Ok yX0_startLags cX0_startLags 3 none (cr_rm0 0 0) K 247 247 Γ) (hyp : cr_V Γ 2 [.ref 185, .int (0 : Int32), .null] [] I (cr_rf τ) 247) : cr_V Γ 0 [.ref 185, .null, .null] [] I (cr_rf τ) 247 := by
  refine cr_iconst h (v := (0 : Int32)) (by decide) dX0_startLags_0 ?_
  refine cr_istore_n h (j := 1) rfl (by decide) rfl dX0_startLags_1 ?_
  show cr_V Γ 2 [.ref 185, .int (0 : Int32), .null] [] I (cr_rf τ) 247
  exact cr_weak [true, true, false] hyp
theorem bk_yX0_startLags_2 {Γ : cr_G} {K : cr_K} {τ : Nat → Nat} {I : cr_I} {x1 : Int32} (hτ : cr_tau τ)  (h : cr_Ok yX0_startLags cX0_startLags 3 none (cr_rm0 0 0) K 247 247 Γ) (hyp : ((6 : Int32) < x1 → K none I (cr_rf τ)) ∧ (¬ (6 : Int32) < x1 → cr_V Γ 10 [.ref 185, .int x1, .int (0 : Int32)] [] I (cr_rf τ) 247)) : cr_V Γ 2 [.ref 185, .int x1, .null] [] I (cr_rf τ) 247 := by
  refine cr_iload_n h (j := 1) rfl rfl dX0_startLags_2 ?_
  refine cr_bipush h (v := (6 : Int32)) (by decide) dX0_startLags_3 ?_
  refine cr_icmp_gt h (tgt := 58) (by decide) dX0_startLags_5 (fun c1 => ?_) (fun c1 => ?_)
  · have hyp := hyp.1 c1
    refine cr_vret h rfl rfl dX0_startLags_58 ?_
    exact hyp
  · have hyp := hyp.2 c1
    refine cr_iconst h (v := (0 : Int32)) (by decide) dX0_startLags_8 ?_
    refine cr_istore_n h (j := 2) rfl (by decide) rfl dX0_startLags_9 ?_
    show cr_V Γ 10 [.ref 185, .int x1, .int (0 : Int32)] [] I (cr_rf τ) 247
    exact cr_weak [true, true, true] hyp
theorem bk_yX0_startLags_10 {Γ : cr_G} {K : cr_K} {τ : Nat → Nat} {I : cr_I} {x1 : Int32} {x2 : Int32} (hτ : cr_tau τ)  (h : cr_Ok yX0_startLags cX0_startLags 3 none (cr_rm0 0 0) K 247 247 Γ) (hyp : ((6 : Int32) < x2 → (∀ v1 : Int32, v1 = x1 + (1 : Int32) → cr_V Γ 2 [.ref 185, .int v1, .null] [] I (cr_rf τ) 247)) ∧ (¬ (6 : Int32) < x2 → ((0 ≤ x1.toInt ∧ x1.toInt < 7) ∧ (¬ x1 = x2 → ((0 ≤ x1.toInt ∧ x1.toInt < 7) ∧ ((0 ≤ x2.toInt ∧ x2.toInt < 7) ∧ True))) ∧ (x1 = x2 → True) ∧ ((0 ≤ x2.toInt ∧ x2.toInt < 7) ∧ (∀ J1 : cr_I, J1 = cr_up I (193 + x1.toNatClampNeg) x2.toNatClampNeg (if x1 = x2 then (0 : Int32) else ((I 186 x1.toNatClampNeg) + (I 186 x2.toNatClampNeg))) → (∀ v2 : Int32, v2 = x2 + (1 : Int32) → cr_V Γ 10 [.ref 185, .int x1, .int v2] [] J1 (cr_rf τ) 247)))))) : cr_V Γ 10 [.ref 185, .int x1, .int x2] [] I (cr_rf τ) 247 := by
  refine cr_iload_n h (j := 2) rfl rfl dX0_startLags_10 ?_
  refine cr_bipush h (v := (6 : Int32)) (by decide) dX0_startLags_11 ?_
  refine cr_icmp_gt h (tgt := 52) (by decide) dX0_startLags_13 (fun c2 => ?_) (fun c2 => ?_)
  · have hyp := hyp.1 c2
    refine cs_inc h (v := (1 : Int32)) 1 rfl (by decide) (by decide) rfl dX0_startLags_52 (fun v1 ev1 => ?_)
    have hyp := hyp v1 ev1
    show cr_V Γ 55 [.ref 185, .int v1, .int x2] [] I (cr_rf τ) 247
    refine cr_goto h (tgt := 2) (by decide) dX0_startLags_55 ?_
    exact cr_weak [true, true, false] hyp
  · have hyp := hyp.2 c2
    refine cr_aload_n h (j := 0) rfl rfl dX0_startLags_16 ?_
    refine cr_getR h (k := 8) cr_clsX0 (by decide) rfl rfl wf_X0_39 (by decide) rfl rfl dX0_startLags_17 ?_
    refine cr_iload_n h (j := 1) rfl rfl dX0_startLags_20 ?_
    have hb1 := hyp.1
    have hyp := hyp.2
    refine cr_aald h (by decide) rfl hb1 ((kr_192 hb1).2.2 τ) dX0_startLags_21 ?_
    refine cr_iload_n h (j := 2) rfl rfl dX0_startLags_22 ?_
    refine cr_iload_n h (j := 1) rfl rfl dX0_startLags_23 ?_
    refine cr_iload_n h (j := 2) rfl rfl dX0_startLags_24 ?_
    have hsJ2 := hyp.1
    have htJ2 := hyp.2.1
    have hyp := hyp.2.2
    have J2 : cr_V Γ 45 [.ref 185, .int x1, .int x2] [.int (if x1 = x2 then (0 : Int32) else ((I 186 x1.toNatClampNeg) + (I 186 x2.toNatClampNeg))), .int x2, .ref (193 + x1.toNatClampNeg)] I (cr_rf τ) 247 := by
      refine cs_ist h (kr_192 hb1).1 (by decide) (kr_192 hb1).2.1 hyp.1 (q := x2.toNatClampNeg) rfl dX0_startLags_45 (fun J1 eJ1 => ?_)
      have hyp := hyp.2 J1 eJ1
      refine cs_inc h (v := (1 : Int32)) 2 rfl (by decide) (by decide) rfl dX0_startLags_46 (fun v2 ev2 => ?_)
      have hyp := hyp v2 ev2
      show cr_V Γ 49 [.ref 185, .int x1, .int v2] [] J1 (cr_rf τ) 247
      refine cr_goto h (tgt := 10) (by decide) dX0_startLags_49 ?_
      exact cr_weak [true, true, true] hyp
    refine cr_icmp_ne h (tgt := 32) (by decide) dX0_startLags_25 (fun c3 => ?_) (fun c3 => ?_)
    · have hyp := hsJ2 c3
      refine cr_aload_n h (j := 0) rfl rfl dX0_startLags_32 ?_
      refine cr_getR h (k := 0) cr_clsX0 (by decide) rfl rfl wf_X0_9 (by decide) rfl rfl dX0_startLags_33 ?_
      refine cr_iload_n h (j := 1) rfl rfl dX0_startLags_36 ?_
      refine cs_ild h (by decide) rfl hyp.1 (q := x1.toNatClampNeg) rfl dX0_startLags_37 ?_
      have hyp := hyp.2
      refine cr_aload_n h (j := 0) rfl rfl dX0_startLags_38 ?_
      refine cr_getR h (k := 0) cr_clsX0 (by decide) rfl rfl wf_X0_9 (by decide) rfl rfl dX0_startLags_39 ?_
      refine cr_iload_n h (j := 2) rfl rfl dX0_startLags_42 ?_
      refine cs_ild h (by decide) rfl hyp.1 (q := x2.toNatClampNeg) rfl dX0_startLags_43 ?_
      have hyp := hyp.2
      refine cr_iadd h dX0_startLags_44 ?_
      exact cr_ite (by rw [if_neg c3]) J2
    · refine cr_iconst h (v := (0 : Int32)) (by decide) dX0_startLags_28 ?_
      refine cr_goto h (tgt := 45) (by decide) dX0_startLags_29 ?_
      exact cr_ite (by rw [if_pos c3]) J2
abbrev T_yX0_startLags : cr_T := fun vs I R K => ∃ (τ : Nat → Nat), R = cr_rf τ ∧ cr_tau τ ∧ vs = [.ref 185] ∧ p_yX0_startLags τ I ∧ ∀ J, q_yX0_startLags τ I J → K none J (cr_rf τ)
abbrev S_yX0_startLags : Prop := cr_C yX0_startLags cX0_startLags 3 none (cr_rm0 0 0) 247 247 T_yX0_startLags
theorem G_yX0_startLags (H : ∀ (Γ : cr_G) (K : cr_K) (τ : Nat → Nat) (I : cr_I), cr_tau τ → cr_Ok yX0_startLags cX0_startLags 3 none (cr_rm0 0 0) K 247 247 Γ → p_yX0_startLags τ I → (∀ J, q_yX0_startLags τ I J → K none J (cr_rf τ)) → cr_V Γ 0 [.ref 185, .null, .null] [] I (cr_rf τ) 247) : cr_C yX0_startLags cX0_startLags 3 none (cr_rm0 0 0) 247 247 T_yX0_startLags := by
  refine cr_C.of (by decide +kernel) (fun vs I R K hT => ?_) (fun Γ K h vs I R hT => ?_)
  · obtain ⟨τ, rfl, hτ, rfl, hp, hK⟩ := hT
    exact Nat.le_of_ble_eq_true rfl
  · obtain ⟨τ, rfl, hτ, rfl, hp, hK⟩ := hT
    exact H Γ K τ I hτ h hp hK
theorem cr_nlt7 {k : Nat} (h : k < 7) : ¬ (6 : Int32) < nI k := nI_nlt (a := 6) (by omega) (by decide)
theorem C_yX0_startLags : cr_C yX0_startLags cX0_startLags 3 none (cr_rm0 0 0) 247 247 T_yX0_startLags := G_yX0_startLags (by
  intro Γ K τ I hτ h hp hK
  refine bk_yX0_startLags_0 hτ h ?_
  refine cr_loop (fun i => ∀ J, cr_fr 193 199 I J → (∀ x y, x < i → y < 7 → (J (193 + x) y).toInt = fw_D0 (cr_offs I) x y) → cr_V Γ 2 [.ref 185, .int (nI i), .null] [] J (cr_rf τ) 247) 7 ?_ ?_ 0 (Nat.zero_le _) I cr_fr.rf (fun x y hx => absurd hx (Nat.not_lt_zero _))
  · intro J hf hm
    exact bk_yX0_startLags_2 hτ h ⟨fun _ => hK J ⟨hf, fun x y hx hy => hm x y hx hy⟩, fun c => absurd (by decide) c⟩
  · intro i hi ih J hf hm
    have hxi : (0 : Int) ≤ (nI i).toInt ∧ (nI i).toInt < 7 := cr_ix (by omega) (by omega)
    refine bk_yX0_startLags_2 hτ h ⟨fun c => absurd c (cr_nlt7 hi), fun _ => ?_⟩
    refine cr_loop (fun j => ∀ J, cr_fr 193 199 I J → (∀ x y, (x < i ∨ (x = i ∧ y < j)) → y < 7 → (J (193 + x) y).toInt = fw_D0 (cr_offs I) x y) → cr_V Γ 10 [.ref 185, .int (nI i), .int (nI j)] [] J (cr_rf τ) 247) 7 ?_ ?_ 0 (Nat.zero_le _) J hf (fun x y hx hy => hm x y (by omega) hy)
    · intro J hf hm
      refine bk_yX0_startLags_10 hτ h ⟨fun _ => ?_, fun c => absurd (by decide) c⟩
      rintro v rfl
      rw [nI_1]
      exact ih J hf (fun x y hx hy => hm x y (by omega) hy)
    · intro j hj ihj J hf hm
      have hxj : (0 : Int) ≤ (nI j).toInt ∧ (nI j).toInt < 7 := cr_ix (by omega) (by omega)
      refine bk_yX0_startLags_10 hτ h ⟨fun c => absurd c (cr_nlt7 hj), fun _ => ⟨hxi, fun _ => ⟨hxi, hxj, trivial⟩, fun _ => trivial, hxj, ?_⟩⟩
      rw [cr_nc (by omega), cr_nc (by omega), hf 186 i (by omega), hf 186 j (by omega)]
      rintro J1 rfl v rfl
      rw [nI_1]
      refine ihj _ (hf.up (by omega) (by omega)) (fun x y hx hy => ?_)
      by_cases e : x = i ∧ y = j
      · obtain ⟨rfl, rfl⟩ := e
        rw [cr_up_s]
        unfold fw_D0
        have hc : (nI x = nI y) ↔ x = y := nI_eq (by omega) (by omega)
        by_cases q : x = y
        · rw [if_pos q, if_pos (hc.mpr q)]; rfl
        · rw [if_neg q, if_neg (fun z => q (hc.mp z))]
          have h1 := hp x (by omega)
          have h2 := hp y (by omega)
          rw [cr_add (by omega)]
          rfl
      · rw [show cr_up J (193 + i) j _ (193 + x) y = J (193 + x) y by unfold cr_up; rw [if_neg (by omega)]]
        exact hm x y (by omega) hy)
def p_yX0_narrowLags (τ : Nat → Nat) (I : cr_I) : Prop := ∀ x y, x < 7 → y < 7 → -1200 ≤ (I (193 + x) y).toInt ∧ (I (193 + x) y).toInt ≤ 1200
def q_yX0_narrowLags (τ : Nat → Nat) (I J : cr_I) : Prop := cr_fr 193 199 I J ∧ cr_mat (fw_A 7 (fun x y => (I (193 + x) y).toInt)) J
theorem bk_yX0_narrowLags_0 {Γ : cr_G} {K : cr_K} {τ : Nat → Nat} {I : cr_I}  (hτ : cr_tau τ)  (h : cr_Ok yX0_narrowLags cX0_narrowLags 4 none (cr_rm0 1 21) K 247 247 Γ) (hyp : cr_V Γ 2 [.ref 185, .int (0 : Int32), .null, .null] [] I (cr_rf τ) 247) : cr_V Γ 0 [.ref 185, .null, .null, .null] [] I (cr_rf τ) 247 := by
  refine cr_iconst h (v := (0 : Int32)) (by decide) dX0_narrowLags_0 ?_
  refine cr_istore_n h (j := 1) rfl (by decide) rfl dX0_narrowLags_1 ?_
  show cr_V Γ 2 [.ref 185, .int (0 : Int32), .null, .null] [] I (cr_rf τ) 247
  exact cr_weak [true, true, false, false] hyp
theorem bk_yX0_narrowLags_2 {Γ : cr_G} {K : cr_K} {τ : Nat → Nat} {I : cr_I} {x1 : Int32} (hτ : cr_tau τ)  (h : cr_Ok yX0_narrowLags cX0_narrowLags 4 none (cr_rm0 1 21) K 247 247 Γ) (hyp : ((6 : Int32) < x1 → K none I (cr_rf τ)) ∧ (¬ (6 : Int32) < x1 → cr_V Γ 10 [.ref 185, .int x1, .int (0 : Int32), .null] [] I (cr_rf τ) 247)) : cr_V Γ 2 [.ref 185, .int x1, .null, .null] [] I (cr_rf τ) 247 := by
  refine cr_iload_n h (j := 1) rfl rfl dX0_narrowLags_2 ?_
  refine cr_bipush h (v := (6 : Int32)) (by decide) dX0_narrowLags_3 ?_
  refine cr_icmp_gt h (tgt := 78) (by decide) dX0_narrowLags_5 (fun c1 => ?_) (fun c1 => ?_)
  · have hyp := hyp.1 c1
    refine cr_vret h rfl rfl dX0_narrowLags_78 ?_
    exact hyp
  · have hyp := hyp.2 c1
    refine cr_iconst h (v := (0 : Int32)) (by decide) dX0_narrowLags_8 ?_
    refine cr_istore_n h (j := 2) rfl (by decide) rfl dX0_narrowLags_9 ?_
    show cr_V Γ 10 [.ref 185, .int x1, .int (0 : Int32), .null] [] I (cr_rf τ) 247
    exact cr_weak [true, true, true, false] hyp
theorem bk_yX0_narrowLags_10 {Γ : cr_G} {K : cr_K} {τ : Nat → Nat} {I : cr_I} {x1 : Int32} {x2 : Int32} (hτ : cr_tau τ)  (h : cr_Ok yX0_narrowLags cX0_narrowLags 4 none (cr_rm0 1 21) K 247 247 Γ) (hyp : ((6 : Int32) < x2 → (∀ v1 : Int32, v1 = x1 + (1 : Int32) → cr_V Γ 2 [.ref 185, .int v1, .null, .null] [] I (cr_rf τ) 247)) ∧ (¬ (6 : Int32) < x2 → cr_V Γ 18 [.ref 185, .int x1, .int x2, .int (0 : Int32)] [] I (cr_rf τ) 247)) : cr_V Γ 10 [.ref 185, .int x1, .int x2, .null] [] I (cr_rf τ) 247 := by
  refine cr_iload_n h (j := 2) rfl rfl dX0_narrowLags_10 ?_
  refine cr_bipush h (v := (6 : Int32)) (by decide) dX0_narrowLags_11 ?_
  refine cr_icmp_gt h (tgt := 72) (by decide) dX0_narrowLags_13 (fun c2 => ?_) (fun c2 => ?_)
  · have hyp := hyp.1 c2
    refine cs_inc h (v := (1 : Int32)) 1 rfl (by decide) (by decide) rfl dX0_narrowLags_72 (fun v1 ev1 => ?_)
    have hyp := hyp v1 ev1
    show cr_V Γ 75 [.ref 185, .int v1, .int x2, .null] [] I (cr_rf τ) 247
    refine cr_goto h (tgt := 2) (by decide) dX0_narrowLags_75 ?_
    exact cr_weak [true, true, false, false] hyp
  · have hyp := hyp.2 c2
    refine cr_iconst h (v := (0 : Int32)) (by decide) dX0_narrowLags_16 ?_
    refine cr_istore_n h (j := 3) rfl (by decide) rfl dX0_narrowLags_17 ?_
    show cr_V Γ 18 [.ref 185, .int x1, .int x2, .int (0 : Int32)] [] I (cr_rf τ) 247
    exact cr_weak [true, true, true, true] hyp
theorem bk_yX0_narrowLags_18 {Γ : cr_G} {K : cr_K} {τ : Nat → Nat} {I : cr_I} {x1 : Int32} {x2 : Int32} {x3 : Int32} (hτ : cr_tau τ)  (h : cr_Ok yX0_narrowLags cX0_narrowLags 4 none (cr_rm0 1 21) K 247 247 Γ) (hyp : ((6 : Int32) < x3 → (∀ v2 : Int32, v2 = x2 + (1 : Int32) → cr_V Γ 10 [.ref 185, .int x1, .int v2, .null] [] I (cr_rf τ) 247)) ∧ (¬ (6 : Int32) < x3 → ((0 ≤ x2.toInt ∧ x2.toInt < 7) ∧ (0 ≤ x2.toInt ∧ x2.toInt < 7) ∧ (0 ≤ x3.toInt ∧ x3.toInt < 7) ∧ (0 ≤ x2.toInt ∧ x2.toInt < 7) ∧ (0 ≤ x1.toInt ∧ x1.toInt < 7) ∧ (0 ≤ x1.toInt ∧ x1.toInt < 7) ∧ (0 ≤ x3.toInt ∧ x3.toInt < 7) ∧ (0 ≤ x3.toInt ∧ x3.toInt < 7) ∧ (∀ J1 : cr_I, J1 = cr_up I (193 + x2.toNatClampNeg) x3.toNatClampNeg (f_yJ9_min_7cf53 τ (I (193 + x2.toNatClampNeg) x3.toNatClampNeg) ((I (193 + x2.toNatClampNeg) x1.toNatClampNeg) + (I (193 + x1.toNatClampNeg) x3.toNatClampNeg)) I) → (∀ v3 : Int32, v3 = x3 + (1 : Int32) → cr_V Γ 18 [.ref 185, .int x1, .int x2, .int v3] [] J1 (cr_rf τ) 247))))) : cr_V Γ 18 [.ref 185, .int x1, .int x2, .int x3] [] I (cr_rf τ) 247 := by
  refine cr_iload_n h (j := 3) rfl rfl dX0_narrowLags_18 ?_
  refine cr_bipush h (v := (6 : Int32)) (by decide) dX0_narrowLags_19 ?_
  refine cr_icmp_gt h (tgt := 66) (by decide) dX0_narrowLags_21 (fun c3 => ?_) (fun c3 => ?_)
  · have hyp := hyp.1 c3
    refine cs_inc h (v := (1 : Int32)) 2 rfl (by decide) (by decide) rfl dX0_narrowLags_66 (fun v2 ev2 => ?_)
    have hyp := hyp v2 ev2
    show cr_V Γ 69 [.ref 185, .int x1, .int v2, .int x3] [] I (cr_rf τ) 247
    refine cr_goto h (tgt := 10) (by decide) dX0_narrowLags_69 ?_
    exact cr_weak [true, true, true, false] hyp
  · have hyp := hyp.2 c3
    refine cr_aload_n h (j := 0) rfl rfl dX0_narrowLags_24 ?_
    refine cr_getR h (k := 8) cr_clsX0 (by decide) rfl rfl wf_X0_39 (by decide) rfl rfl dX0_narrowLags_25 ?_
    refine cr_iload_n h (j := 2) rfl rfl dX0_narrowLags_28 ?_
    have hb1 := hyp.1
    have hyp := hyp.2
    refine cr_aald h (by decide) rfl hb1 ((kr_192 hb1).2.2 τ) dX0_narrowLags_29 ?_
    refine cr_iload_n h (j := 3) rfl rfl dX0_narrowLags_30 ?_
    refine cr_aload_n h (j := 0) rfl rfl dX0_narrowLags_31 ?_
    refine cr_getR h (k := 8) cr_clsX0 (by decide) rfl rfl wf_X0_39 (by decide) rfl rfl dX0_narrowLags_32 ?_
    refine cr_iload_n h (j := 2) rfl rfl dX0_narrowLags_35 ?_
    have hb2 := hyp.1
    have hyp := hyp.2
    refine cr_aald h (by decide) rfl hb2 ((kr_192 hb2).2.2 τ) dX0_narrowLags_36 ?_
    refine cr_iload_n h (j := 3) rfl rfl dX0_narrowLags_37 ?_
    refine cs_ild h (kr_192 hb2).1 (kr_192 hb2).2.1 hyp.1 (q := x3.toNatClampNeg) rfl dX0_narrowLags_38 ?_
    have hyp := hyp.2
    refine cr_aload_n h (j := 0) rfl rfl dX0_narrowLags_39 ?_
    refine cr_getR h (k := 8) cr_clsX0 (by decide) rfl rfl wf_X0_39 (by decide) rfl rfl dX0_narrowLags_40 ?_
    refine cr_iload_n h (j := 2) rfl rfl dX0_narrowLags_43 ?_
    have hb3 := hyp.1
    have hyp := hyp.2
    refine cr_aald h (by decide) rfl hb3 ((kr_192 hb3).2.2 τ) dX0_narrowLags_44 ?_
    refine cr_iload_n h (j := 1) rfl rfl dX0_narrowLags_45 ?_
    refine cs_ild h (kr_192 hb3).1 (kr_192 hb3).2.1 hyp.1 (q := x1.toNatClampNeg) rfl dX0_narrowLags_46 ?_
    have hyp := hyp.2
    refine cr_aload_n h (j := 0) rfl rfl dX0_narrowLags_47 ?_
    refine cr_getR h (k := 8) cr_clsX0 (by decide) rfl rfl wf_X0_39 (by decide) rfl rfl dX0_narrowLags_48 ?_
    refine cr_iload_n h (j := 1) rfl rfl dX0_narrowLags_51 ?_
    have hb4 := hyp.1
    have hyp := hyp.2
    refine cr_aald h (by decide) rfl hb4 ((kr_192 hb4).2.2 τ) dX0_narrowLags_52 ?_
    refine cr_iload_n h (j := 3) rfl rfl dX0_narrowLags_53 ?_
    refine cs_ild h (kr_192 hb4).1 (kr_192 hb4).2.1 hyp.1 (q := x3.toNatClampNeg) rfl dX0_narrowLags_54 ?_
    have hyp := hyp.2
    refine cr_iadd h dX0_narrowLags_55 ?_
    refine cr_callS h C_yJ9_min_7cf53 cZ_yJ9_min_7cf53 wm_X0_52 ws_yJ9_min_7cf53 (cr_rmS (by decide) (by decide)) (As := [.int (I (193 + x2.toNatClampNeg) x3.toNatClampNeg), .int ((I (193 + x2.toNatClampNeg) x1.toNatClampNeg) + (I (193 + x1.toNatClampNeg) x3.toNatClampNeg))]) rfl (Nat.le_of_ble_eq_true rfl) dX0_narrowLags_56 ⟨τ, (I (193 + x2.toNatClampNeg) x3.toNatClampNeg), ((I (193 + x2.toNatClampNeg) x1.toNatClampNeg) + (I (193 + x1.toNatClampNeg) x3.toNatClampNeg)), rfl, hτ, rfl, ?_⟩
    show cr_V Γ 59 [.ref 185, .int x1, .int x2, .int x3] [.int (f_yJ9_min_7cf53 τ (I (193 + x2.toNatClampNeg) x3.toNatClampNeg) ((I (193 + x2.toNatClampNeg) x1.toNatClampNeg) + (I (193 + x1.toNatClampNeg) x3.toNatClampNeg)) I), .int x3, .ref (193 + x2.toNatClampNeg)] I (cr_rf τ) 247
    refine cs_ist h (kr_192 hb1).1 (by decide) (kr_192 hb1).2.1 hyp.1 (q := x3.toNatClampNeg) rfl dX0_narrowLags_59 (fun J1 eJ1 => ?_)
    have hyp := hyp.2 J1 eJ1
    refine cs_inc h (v := (1 : Int32)) 3 rfl (by decide) (by decide) rfl dX0_narrowLags_60 (fun v3 ev3 => ?_)
    have hyp := hyp v3 ev3
    show cr_V Γ 63 [.ref 185, .int x1, .int x2, .int v3] [] J1 (cr_rf τ) 247
    refine cr_goto h (tgt := 18) (by decide) dX0_narrowLags_63 ?_
    exact cr_weak [true, true, true, true] hyp
abbrev T_yX0_narrowLags : cr_T := fun vs I R K => ∃ (τ : Nat → Nat), R = cr_rf τ ∧ cr_tau τ ∧ vs = [.ref 185] ∧ p_yX0_narrowLags τ I ∧ ∀ J, q_yX0_narrowLags τ I J → K none J (cr_rf τ)
abbrev S_yX0_narrowLags : Prop := cr_C yX0_narrowLags cX0_narrowLags 4 none (cr_rm0 1 21) 247 247 T_yX0_narrowLags
theorem G_yX0_narrowLags (H : ∀ (Γ : cr_G) (K : cr_K) (τ : Nat → Nat) (I : cr_I), cr_tau τ → cr_Ok yX0_narrowLags cX0_narrowLags 4 none (cr_rm0 1 21) K 247 247 Γ → p_yX0_narrowLags τ I → (∀ J, q_yX0_narrowLags τ I J → K none J (cr_rf τ)) → cr_V Γ 0 [.ref 185, .null, .null, .null] [] I (cr_rf τ) 247) : cr_C yX0_narrowLags cX0_narrowLags 4 none (cr_rm0 1 21) 247 247 T_yX0_narrowLags := by
  refine cr_C.of (by decide +kernel) (fun vs I R K hT => ?_) (fun Γ K h vs I R hT => ?_)
  · obtain ⟨τ, rfl, hτ, rfl, hp, hK⟩ := hT
    exact Nat.le_of_ble_eq_true rfl
  · obtain ⟨τ, rfl, hτ, rfl, hp, hK⟩ := hT
    exact H Γ K τ I hτ h hp hK
theorem fw_L_le : ∀ v, v < 7 → 0 ≤ fw_L v ∧ fw_L v ≤ 55987200 := by decide +kernel
theorem C_yX0_narrowLags : cr_C yX0_narrowLags cX0_narrowLags 4 none (cr_rm0 1 21) 247 247 T_yX0_narrowLags := G_yX0_narrowLags (by
  intro Γ K τ I hτ h hp hK
  generalize hd0 : (fun x y => (I (193 + x) y).toInt : cr_M) = d0
  have hB : fw_B 1200 1200 d0 := fun x y hx hy => by rw [← hd0]; exact hp x y hx hy
  have hK : ∀ J, cr_fr 193 199 I J ∧ cr_mat (fw_A 7 d0) J → K none J (cr_rf τ) := fun J hq => hK J (by unfold q_yX0_narrowLags; rw [hd0]; exact hq)
  refine bk_yX0_narrowLags_0 hτ h ?_
  refine cr_loop (fun v => ∀ J, cr_fr 193 199 I J → cr_mat (fw_A v d0) J → cr_V Γ 2 [.ref 185, .int (nI v), .null, .null] [] J (cr_rf τ) 247) 7 ?_ ?_ 0 (Nat.zero_le _) I cr_fr.rf (fun x y hx hy => by rw [← hd0]; rfl)
  · intro J hf hm
    exact bk_yX0_narrowLags_2 hτ h ⟨fun _ => hK J ⟨hf, hm⟩, fun c => absurd (by decide) c⟩
  · intro v hv ih J hf hm
    have hxv : (0 : Int) ≤ (nI v).toInt ∧ (nI v).toInt < 7 := cr_ix (by omega) (by omega)
    obtain ⟨hL0, hL1⟩ := fw_L_le v hv
    have hBv := fw_B_A hB v (by omega)
    refine bk_yX0_narrowLags_2 hτ h ⟨fun c => absurd c (cr_nlt7 hv), fun _ => ?_⟩
    refine cr_loop (fun i => ∀ J, cr_fr 193 199 I J → cr_mat (fw_P v i (fw_A v d0)) J → cr_V Γ 10 [.ref 185, .int (nI v), .int (nI i), .null] [] J (cr_rf τ) 247) 7 ?_ ?_ 0 (Nat.zero_le _) J hf hm
    · intro J hf hm
      refine bk_yX0_narrowLags_10 hτ h ⟨fun _ => ?_, fun c => absurd (by decide) c⟩
      rintro w rfl
      rw [nI_1]
      exact ih J hf hm
    · intro i hi ihi J hf hm
      have hxi : (0 : Int) ≤ (nI i).toInt ∧ (nI i).toInt < 7 := cr_ix (by omega) (by omega)
      have hIi := fw_I_P (U := 1200) hv hL0 hBv i (by omega)
      refine bk_yX0_narrowLags_10 hτ h ⟨fun c => absurd c (cr_nlt7 hi), fun _ => ?_⟩
      refine cr_loop (fun j => ∀ J, cr_fr 193 199 I J → cr_mat (fw_R v i j (fw_P v i (fw_A v d0))) J → cr_V Γ 18 [.ref 185, .int (nI v), .int (nI i), .int (nI j)] [] J (cr_rf τ) 247) 7 ?_ ?_ 0 (Nat.zero_le _) J hf hm
      · intro J hf hm
        refine bk_yX0_narrowLags_18 hτ h ⟨fun _ => ?_, fun c => absurd (by decide) c⟩
        rintro w rfl
        rw [nI_1]
        exact ihi J hf hm
      · intro j hj ihj J hf hm
        have hxj : (0 : Int) ≤ (nI j).toInt ∧ (nI j).toInt < 7 := cr_ix (by omega) (by omega)
        have hIj := fw_I_R (U := 1200) hv hi hL0 hIi j (by omega)
        refine bk_yX0_narrowLags_18 hτ h ⟨fun c => absurd c (cr_nlt7 hj), fun _ => ⟨hxi, hxi, hxj, hxi, hxv, hxv, hxj, hxj, ?_⟩⟩
        rw [cr_nc (by omega), cr_nc (by omega), cr_nc (by omega)]
        rintro J1 rfl w rfl
        rw [nI_1]
        refine ihj _ (hf.up (by omega) (by omega)) ?_
        rw [fw_R]
        unfold fw_1
        refine cr_mat_up hm ?_
        have e1 := hm i j hi hj
        have e2 := hm i v hi hv
        have e3 := hm v j hv hj
        have b2 := hIj i v hi hv
        have b3 := hIj v j hv hj
        rw [cr_min, cr_add (by rw [e2, e3]; omega), e1, e2, e3])
def cr_cka (I : cr_I) (k : Nat) : Nat := (I 187 (I 189 k).toNatClampNeg).toNatClampNeg
def cr_ckb (I : cr_I) (k : Nat) : Nat := (I 187 (I 190 k).toNatClampNeg).toNatClampNeg
def cr_ckw (I : cr_I) (k : Nat) : Int := (I 191 k).toInt - (I 188 (I 190 k).toNatClampNeg).toInt + (I 188 (I 189 k).toNatClampNeg).toInt
/-- what the clocks hold is as told -/
def cr_cw (off ec et one two bw : Nat → Int32) (A : Int32) : Prop := (∀ c, c < 6 → 0 ≤ (off c).toInt ∧ (off c).toInt ≤ 60) ∧ (∀ e, e < 12 → (0 ≤ (ec e).toInt ∧ (ec e).toInt < 6) ∧ (0 ≤ (et e).toInt ∧ (et e).toInt ≤ 999)) ∧ (∀ k, k < 12 → (0 ≤ (one k).toInt ∧ (one k).toInt < 12) ∧ (0 ≤ (two k).toInt ∧ (two k).toInt < 12) ∧ (0 ≤ (bw k).toInt ∧ (bw k).toInt ≤ 99)) ∧ (0 ≤ A.toInt ∧ A.toInt ≤ 12)
def p_yX0_layTogether (τ : Nat → Nat) (I : cr_I) : Prop := cr_cw (I 186) (I 187) (I 188) (I 189) (I 190) (I 191) (I 185 4) ∧ (I 186 6).toInt = 0
def cr_ckF (I : cr_I) : cr_M := fw_F (cr_offs I) (I 185 4).toNatClampNeg (cr_cka I) (cr_ckb I) (cr_ckw I)
def q_yX0_layTogether (τ : Nat → Nat) (I : cr_I) (r : Int32) (J : cr_I) : Prop := cr_fr 193 199 I J ∧ cr_mat (cr_ckF I) J ∧ ((r = 1 ∧ ∀ i, i < 7 → 0 ≤ cr_ckF I i i) ∨ (r = 0 ∧ ∃ i, i < 7 ∧ cr_ckF I i i < 0))
def t_yX0_heedAfter (τ : Nat → Nat) (x1 : Int32) (x2 : Int32) (x3 : Int32) (I : cr_I) (Q : cr_I → Prop) : Prop := (0 ≤ x2.toInt ∧ x2.toInt < 12) ∧ (0 ≤ x1.toInt ∧ x1.toInt < 12) ∧ (∀ v1 : Int32, v1 = (((I 188 x2.toNatClampNeg) - (I 188 x1.toNatClampNeg)) - x3) → ((0 ≤ x1.toInt ∧ x1.toInt < 12) ∧ (∀ v2 : Int32, v2 = (I 187 x1.toNatClampNeg) → ((0 ≤ x2.toInt ∧ x2.toInt < 12) ∧ (∀ v3 : Int32, v3 = (I 187 x2.toNatClampNeg) → ((0 ≤ v2.toInt ∧ v2.toInt < 7) ∧ (0 ≤ v2.toInt ∧ v2.toInt < 7) ∧ (0 ≤ v3.toInt ∧ v3.toInt < 7) ∧ (0 ≤ v3.toInt ∧ v3.toInt < 7) ∧ (∀ J1 : cr_I, J1 = cr_up I (193 + v2.toNatClampNeg) v3.toNatClampNeg (f_yJ9_min_7cf53 τ (I (193 + v2.toNatClampNeg) v3.toNatClampNeg) v1 I) → Q J1)))))))
abbrev T_yX0_heedAfter : cr_T := fun vs I R K => ∃ (τ : Nat → Nat) (x1 : Int32) (x2 : Int32) (x3 : Int32) (Q : cr_I → Prop), R = cr_rf τ ∧ cr_tau τ ∧ vs = [.ref 185, .int x1, .int x2, .int x3] ∧ t_yX0_heedAfter τ x1 x2 x3 I Q ∧ ∀ J, Q J → K none J (cr_rf τ)
theorem C_yX0_heedAfter : cr_C yX0_heedAfter cX0_heedAfter 7 none (cr_rm0 1 21) 247 247 T_yX0_heedAfter := by
  refine cr_C.of (by decide +kernel) (fun vs I R K hT => ?_) (fun Γ K h vs I R hT => ?_)
  · obtain ⟨τ, x1, x2, x3, Q, rfl, hτ, rfl, hyp, hK⟩ := hT
    exact Nat.le_of_ble_eq_true rfl
  · obtain ⟨τ, x1, x2, x3, Q, rfl, hτ, rfl, hyp, hK⟩ := hT
    unfold t_yX0_heedAfter at hyp
    show cr_V Γ 0 [.ref 185, .int x1, .int x2, .int x3, .null, .null, .null] [] I (cr_rf τ) 247
    refine cr_aload_n h (j := 0) rfl rfl dX0_heedAfter_0 ?_
    refine cr_getR h (k := 3) cr_clsX0 (by decide) rfl rfl wf_X0_22 (by decide) rfl rfl dX0_heedAfter_1 ?_
    refine cr_iload_n h (j := 2) rfl rfl dX0_heedAfter_4 ?_
    refine cs_ild h (by decide) rfl hyp.1 (q := x2.toNatClampNeg) rfl dX0_heedAfter_5 ?_
    have hyp := hyp.2
    refine cr_aload_n h (j := 0) rfl rfl dX0_heedAfter_6 ?_
    refine cr_getR h (k := 3) cr_clsX0 (by decide) rfl rfl wf_X0_22 (by decide) rfl rfl dX0_heedAfter_7 ?_
    refine cr_iload_n h (j := 1) rfl rfl dX0_heedAfter_10 ?_
    refine cs_ild h (by decide) rfl hyp.1 (q := x1.toNatClampNeg) rfl dX0_heedAfter_11 ?_
    have hyp := hyp.2
    refine cr_isub h dX0_heedAfter_12 ?_
    refine cr_iload_n h (j := 3) rfl rfl dX0_heedAfter_13 ?_
    refine cr_isub h dX0_heedAfter_14 ?_
    refine cs_i h 4 (by decide) rfl dX0_heedAfter_15 (fun v1 ev1 => ?_)
    have hyp := hyp v1 ev1
    show cr_V Γ 17 [.ref 185, .int x1, .int x2, .int x3, .int v1, .null, .null] [] I (cr_rf τ) 247
    refine cr_aload_n h (j := 0) rfl rfl dX0_heedAfter_17 ?_
    refine cr_getR h (k := 2) cr_clsX0 (by decide) rfl rfl wf_X0_19 (by decide) rfl rfl dX0_heedAfter_18 ?_
    refine cr_iload_n h (j := 1) rfl rfl dX0_heedAfter_21 ?_
    refine cs_ild h (by decide) rfl hyp.1 (q := x1.toNatClampNeg) rfl dX0_heedAfter_22 ?_
    have hyp := hyp.2
    refine cs_i h 5 (by decide) rfl dX0_heedAfter_23 (fun v2 ev2 => ?_)
    have hyp := hyp v2 ev2
    show cr_V Γ 25 [.ref 185, .int x1, .int x2, .int x3, .int v1, .int v2, .null] [] I (cr_rf τ) 247
    refine cr_aload_n h (j := 0) rfl rfl dX0_heedAfter_25 ?_
    refine cr_getR h (k := 2) cr_clsX0 (by decide) rfl rfl wf_X0_19 (by decide) rfl rfl dX0_heedAfter_26 ?_
    refine cr_iload_n h (j := 2) rfl rfl dX0_heedAfter_29 ?_
    refine cs_ild h (by decide) rfl hyp.1 (q := x2.toNatClampNeg) rfl dX0_heedAfter_30 ?_
    have hyp := hyp.2
    refine cs_i h 6 (by decide) rfl dX0_heedAfter_31 (fun v3 ev3 => ?_)
    have hyp := hyp v3 ev3
    show cr_V Γ 33 [.ref 185, .int x1, .int x2, .int x3, .int v1, .int v2, .int v3] [] I (cr_rf τ) 247
    refine cr_aload_n h (j := 0) rfl rfl dX0_heedAfter_33 ?_
    refine cr_getR h (k := 8) cr_clsX0 (by decide) rfl rfl wf_X0_39 (by decide) rfl rfl dX0_heedAfter_34 ?_
    refine cr_iload h rfl dX0_heedAfter_37 ?_
    have hb1 := hyp.1
    have hyp := hyp.2
    refine cr_aald h (by decide) rfl hb1 ((kr_192 hb1).2.2 τ) dX0_heedAfter_39 ?_
    refine cr_iload h rfl dX0_heedAfter_40 ?_
    refine cr_aload_n h (j := 0) rfl rfl dX0_heedAfter_42 ?_
    refine cr_getR h (k := 8) cr_clsX0 (by decide) rfl rfl wf_X0_39 (by decide) rfl rfl dX0_heedAfter_43 ?_
    refine cr_iload h rfl dX0_heedAfter_46 ?_
    have hb2 := hyp.1
    have hyp := hyp.2
    refine cr_aald h (by decide) rfl hb2 ((kr_192 hb2).2.2 τ) dX0_heedAfter_48 ?_
    refine cr_iload h rfl dX0_heedAfter_49 ?_
    refine cs_ild h (kr_192 hb2).1 (kr_192 hb2).2.1 hyp.1 (q := v3.toNatClampNeg) rfl dX0_heedAfter_51 ?_
    have hyp := hyp.2
    refine cr_iload h rfl dX0_heedAfter_52 ?_
    refine cr_callS h C_yJ9_min_7cf53 cZ_yJ9_min_7cf53 wm_X0_52 ws_yJ9_min_7cf53 (cr_rmS (by decide) (by decide)) (As := [.int (I (193 + v2.toNatClampNeg) v3.toNatClampNeg), .int v1]) rfl (Nat.le_of_ble_eq_true rfl) dX0_heedAfter_54 ⟨τ, (I (193 + v2.toNatClampNeg) v3.toNatClampNeg), v1, rfl, hτ, rfl, ?_⟩
    show cr_V Γ 57 [.ref 185, .int x1, .int x2, .int x3, .int v1, .int v2, .int v3] [.int (f_yJ9_min_7cf53 τ (I (193 + v2.toNatClampNeg) v3.toNatClampNeg) v1 I), .int v3, .ref (193 + v2.toNatClampNeg)] I (cr_rf τ) 247
    refine cs_ist h (kr_192 hb1).1 (by decide) (kr_192 hb1).2.1 hyp.1 (q := v3.toNatClampNeg) rfl dX0_heedAfter_57 (fun J1 eJ1 => ?_)
    have hyp := hyp.2 J1 eJ1
    refine cr_vret h rfl rfl dX0_heedAfter_58 ?_
    exact hK _ hyp
theorem bk_yX0_layTogether_0 {Γ : cr_G} {K : cr_K} {τ : Nat → Nat} {I : cr_I}  (hτ : cr_tau τ)  (h : cr_Ok yX0_layTogether cX0_layTogether 2 (some .boolean) (cr_rm0 2 47) K 247 247 Γ) (hyp : p_yX0_startLags τ I ∧ (∀ (J1 : cr_I), q_yX0_startLags τ I J1 → cr_V Γ 6 [.ref 185, .int (0 : Int32)] [] J1 (cr_rf τ) 247)) : cr_V Γ 0 [.ref 185, .null] [] I (cr_rf τ) 247 := by
  refine cr_aload_n h (j := 0) rfl rfl dX0_layTogether_0 ?_
  refine cr_callV h (c0 := 0) (T0 := TX0) C_yX0_startLags cZ_yX0_startLags wm_X0_42 wv_yX0_startLags we_yX0_startLags (by decide) rfl rfl (cr_rmS (by decide) (by decide)) (As := []) rfl (Nat.le_of_ble_eq_true rfl) dX0_layTogether_1 ⟨τ, rfl, hτ, rfl, hyp.1, fun J1 q1 => ?_⟩
  have hyp := hyp.2 J1 q1
  show cr_V Γ 4 [.ref 185, .null] [] J1 (cr_rf τ) 247
  refine cr_iconst h (v := (0 : Int32)) (by decide) dX0_layTogether_4 ?_
  refine cr_istore_n h (j := 1) rfl (by decide) rfl dX0_layTogether_5 ?_
  show cr_V Γ 6 [.ref 185, .int (0 : Int32)] [] J1 (cr_rf τ) 247
  exact cr_weak [true, true] hyp
theorem bk_yX0_layTogether_6 {Γ : cr_G} {K : cr_K} {τ : Nat → Nat} {I : cr_I} {x1 : Int32} (hτ : cr_tau τ)  (h : cr_Ok yX0_layTogether cX0_layTogether 2 (some .boolean) (cr_rm0 2 47) K 247 247 Γ) (hyp : ((I 185 4) ≤ x1 → (p_yX0_narrowLags τ I ∧ (∀ (J2 : cr_I), q_yX0_narrowLags τ I J2 → cr_V Γ 48 [.ref 185, .int (0 : Int32)] [] J2 (cr_rf τ) 247))) ∧ (¬ (I 185 4) ≤ x1 → ((0 ≤ x1.toInt ∧ x1.toInt < 12) ∧ (0 ≤ x1.toInt ∧ x1.toInt < 12) ∧ (0 ≤ x1.toInt ∧ x1.toInt < 12) ∧ t_yX0_heedAfter τ (I 189 x1.toNatClampNeg) (I 190 x1.toNatClampNeg) (I 191 x1.toNatClampNeg) I (fun (J3 : cr_I) => ∀ v1 : Int32, v1 = x1 + (1 : Int32) → cr_V Γ 6 [.ref 185, .int v1] [] J3 (cr_rf τ) 247)))) : cr_V Γ 6 [.ref 185, .int x1] [] I (cr_rf τ) 247 := by
  refine cr_iload_n h (j := 1) rfl rfl dX0_layTogether_6 ?_
  refine cr_aload_n h (j := 0) rfl rfl dX0_layTogether_7 ?_
  refine cr_getI h (k := 4) cr_clsX0 (by decide) rfl rfl wf_X0_25 (by decide) rfl dX0_layTogether_8 ?_
  refine cr_icmp_ge h (tgt := 42) (by decide) dX0_layTogether_11 (fun c1 => ?_) (fun c1 => ?_)
  · have hyp := hyp.1 c1
    refine cr_aload_n h (j := 0) rfl rfl dX0_layTogether_42 ?_
    refine cr_callV h (c0 := 0) (T0 := TX0) C_yX0_narrowLags cZ_yX0_narrowLags wm_X0_49 wv_yX0_narrowLags we_yX0_narrowLags (by decide) rfl rfl (cr_rmS (by decide) (by decide)) (As := []) rfl (Nat.le_of_ble_eq_true rfl) dX0_layTogether_43 ⟨τ, rfl, hτ, rfl, hyp.1, fun J2 q2 => ?_⟩
    have hyp := hyp.2 J2 q2
    show cr_V Γ 46 [.ref 185, .int x1] [] J2 (cr_rf τ) 247
    refine cr_iconst h (v := (0 : Int32)) (by decide) dX0_layTogether_46 ?_
    refine cr_istore_n h (j := 1) rfl (by decide) rfl dX0_layTogether_47 ?_
    show cr_V Γ 48 [.ref 185, .int (0 : Int32)] [] J2 (cr_rf τ) 247
    exact cr_weak [true, true] hyp
  · have hyp := hyp.2 c1
    refine cr_aload_n h (j := 0) rfl rfl dX0_layTogether_14 ?_
    refine cr_aload_n h (j := 0) rfl rfl dX0_layTogether_15 ?_
    refine cr_getR h (k := 5) cr_clsX0 (by decide) rfl rfl wf_X0_28 (by decide) rfl rfl dX0_layTogether_16 ?_
    refine cr_iload_n h (j := 1) rfl rfl dX0_layTogether_19 ?_
    refine cs_ild h (by decide) rfl hyp.1 (q := x1.toNatClampNeg) rfl dX0_layTogether_20 ?_
    have hyp := hyp.2
    refine cr_aload_n h (j := 0) rfl rfl dX0_layTogether_21 ?_
    refine cr_getR h (k := 6) cr_clsX0 (by decide) rfl rfl wf_X0_31 (by decide) rfl rfl dX0_layTogether_22 ?_
    refine cr_iload_n h (j := 1) rfl rfl dX0_layTogether_25 ?_
    refine cs_ild h (by decide) rfl hyp.1 (q := x1.toNatClampNeg) rfl dX0_layTogether_26 ?_
    have hyp := hyp.2
    refine cr_aload_n h (j := 0) rfl rfl dX0_layTogether_27 ?_
    refine cr_getR h (k := 7) cr_clsX0 (by decide) rfl rfl wf_X0_34 (by decide) rfl rfl dX0_layTogether_28 ?_
    refine cr_iload_n h (j := 1) rfl rfl dX0_layTogether_31 ?_
    refine cs_ild h (by decide) rfl hyp.1 (q := x1.toNatClampNeg) rfl dX0_layTogether_32 ?_
    have hyp := hyp.2
    refine cr_callV h (c0 := 0) (T0 := TX0) C_yX0_heedAfter cZ_yX0_heedAfter wm_X0_45 wv_yX0_heedAfter we_yX0_heedAfter (by decide) rfl rfl (cr_rmS (by decide) (by decide)) (As := [.int (I 189 x1.toNatClampNeg), .int (I 190 x1.toNatClampNeg), .int (I 191 x1.toNatClampNeg)]) rfl (Nat.le_of_ble_eq_true rfl) dX0_layTogether_33 ⟨τ, (I 189 x1.toNatClampNeg), (I 190 x1.toNatClampNeg), (I 191 x1.toNatClampNeg), _, rfl, hτ, rfl, hyp, fun J3 hyp => ?_⟩
    show cr_V Γ 36 [.ref 185, .int x1] [] J3 (cr_rf τ) 247
    refine cs_inc h (v := (1 : Int32)) 1 rfl (by decide) (by decide) rfl dX0_layTogether_36 (fun v1 ev1 => ?_)
    have hyp := hyp v1 ev1
    show cr_V Γ 39 [.ref 185, .int v1] [] J3 (cr_rf τ) 247
    refine cr_goto h (tgt := 6) (by decide) dX0_layTogether_39 ?_
    exact cr_weak [true, true] hyp
theorem bk_yX0_layTogether_48 {Γ : cr_G} {K : cr_K} {τ : Nat → Nat} {I : cr_I} {x1 : Int32} (hτ : cr_tau τ)  (h : cr_Ok yX0_layTogether cX0_layTogether 2 (some .boolean) (cr_rm0 2 47) K 247 247 Γ) (hyp : ((6 : Int32) < x1 → K (some (.int (1 : Int32))) I (cr_rf τ)) ∧ (¬ (6 : Int32) < x1 → ((0 ≤ x1.toInt ∧ x1.toInt < 7) ∧ (0 ≤ x1.toInt ∧ x1.toInt < 7) ∧ (0 ≤ (I (193 + x1.toNatClampNeg) x1.toNatClampNeg) → (∀ v2 : Int32, v2 = x1 + (1 : Int32) → cr_V Γ 48 [.ref 185, .int v2] [] I (cr_rf τ) 247)) ∧ (¬ 0 ≤ (I (193 + x1.toNatClampNeg) x1.toNatClampNeg) → K (some (.int (0 : Int32))) I (cr_rf τ))))) : cr_V Γ 48 [.ref 185, .int x1] [] I (cr_rf τ) 247 := by
  refine cr_iload_n h (j := 1) rfl rfl dX0_layTogether_48 ?_
  refine cr_bipush h (v := (6 : Int32)) (by decide) dX0_layTogether_49 ?_
  refine cr_icmp_gt h (tgt := 73) (by decide) dX0_layTogether_51 (fun c2 => ?_) (fun c2 => ?_)
  · have hyp := hyp.1 c2
    refine cr_iconst h (v := (1 : Int32)) (by decide) dX0_layTogether_73 ?_
    refine cr_iret h rfl (by decide) rfl dX0_layTogether_74 ?_
    exact hyp
  · have hyp := hyp.2 c2
    refine cr_aload_n h (j := 0) rfl rfl dX0_layTogether_54 ?_
    refine cr_getR h (k := 8) cr_clsX0 (by decide) rfl rfl wf_X0_39 (by decide) rfl rfl dX0_layTogether_55 ?_
    refine cr_iload_n h (j := 1) rfl rfl dX0_layTogether_58 ?_
    have hb1 := hyp.1
    have hyp := hyp.2
    refine cr_aald h (by decide) rfl hb1 ((kr_192 hb1).2.2 τ) dX0_layTogether_59 ?_
    refine cr_iload_n h (j := 1) rfl rfl dX0_layTogether_60 ?_
    refine cs_ild h (kr_192 hb1).1 (kr_192 hb1).2.1 hyp.1 (q := x1.toNatClampNeg) rfl dX0_layTogether_61 ?_
    have hyp := hyp.2
    refine cr_if_ge h (tgt := 67) (by decide) dX0_layTogether_62 (fun c3 => ?_) (fun c3 => ?_)
    · have hyp := hyp.1 c3
      refine cs_inc h (v := (1 : Int32)) 1 rfl (by decide) (by decide) rfl dX0_layTogether_67 (fun v2 ev2 => ?_)
      have hyp := hyp v2 ev2
      show cr_V Γ 70 [.ref 185, .int v2] [] I (cr_rf τ) 247
      refine cr_goto h (tgt := 48) (by decide) dX0_layTogether_70 ?_
      exact cr_weak [true, true] hyp
    · have hyp := hyp.2 c3
      refine cr_iconst h (v := (0 : Int32)) (by decide) dX0_layTogether_65 ?_
      refine cr_iret h rfl (by decide) rfl dX0_layTogether_66 ?_
      exact hyp
abbrev T_yX0_layTogether : cr_T := fun vs I R K => ∃ (τ : Nat → Nat), R = cr_rf τ ∧ cr_tau τ ∧ vs = [.ref 185] ∧ p_yX0_layTogether τ I ∧ ∀ (r : Int32) J, q_yX0_layTogether τ I r J → K (some (.int r)) J (cr_rf τ)
abbrev S_yX0_layTogether : Prop := cr_C yX0_layTogether cX0_layTogether 2 (some .boolean) (cr_rm0 2 47) 247 247 T_yX0_layTogether
theorem G_yX0_layTogether (H : ∀ (Γ : cr_G) (K : cr_K) (τ : Nat → Nat) (I : cr_I), cr_tau τ → cr_Ok yX0_layTogether cX0_layTogether 2 (some .boolean) (cr_rm0 2 47) K 247 247 Γ → p_yX0_layTogether τ I → (∀ (r : Int32) J, q_yX0_layTogether τ I r J → K (some (.int r)) J (cr_rf τ)) → cr_V Γ 0 [.ref 185, .null] [] I (cr_rf τ) 247) : cr_C yX0_layTogether cX0_layTogether 2 (some .boolean) (cr_rm0 2 47) 247 247 T_yX0_layTogether := by
  refine cr_C.of (by decide +kernel) (fun vs I R K hT => ?_) (fun Γ K h vs I R hT => ?_)
  · obtain ⟨τ, rfl, hτ, rfl, hp, hK⟩ := hT
    exact Nat.le_of_ble_eq_true rfl
  · obtain ⟨τ, rfl, hτ, rfl, hp, hK⟩ := hT
    exact H Γ K τ I hτ h hp hK
theorem cr_cn {x : Int32} {N : Nat} (h : 0 ≤ x.toInt ∧ x.toInt < N) : x.toNatClampNeg < N := cr_nn h
theorem C_yX0_layTogether : cr_C yX0_layTogether cX0_layTogether 2 (some .boolean) (cr_rm0 2 47) 247 247 T_yX0_layTogether := G_yX0_layTogether (by
  intro Γ K τ I hτ h hp hK
  obtain ⟨⟨w1, w2, w3, w4⟩, w5⟩ := hp
  obtain ⟨eN, hN⟩ := cr_ofI (B := 12) w4.1 w4.2
  have hoff : ∀ c, c < 7 → 0 ≤ (I 186 c).toInt ∧ (I 186 c).toInt ≤ 60 := fun c hc => by
    by_cases q : c < 6
    · exact w1 c q
    · rw [show c = 6 by omega, w5]; omega
  have hab : ∀ k, k < 12 → cr_cka I k < 6 ∧ cr_ckb I k < 6 ∧ -1098 ≤ -(cr_ckw I k) ∧ -(cr_ckw I k) ≤ 999 := fun k hk => by
    obtain ⟨o1, o2, o3⟩ := w3 k hk
    have n1 := cr_cn (N := 12) o1
    have n2 := cr_cn (N := 12) o2
    have c1 := w2 _ n1
    have c2 := w2 _ n2
    refine ⟨cr_cn (N := 6) c1.1, cr_cn (N := 6) c2.1, ?_, ?_⟩ <;> unfold cr_ckw <;> omega
  have hD0 : ∀ x y, x < 7 → y < 7 → 0 ≤ fw_D0 (cr_offs I) x y ∧ fw_D0 (cr_offs I) x y ≤ 120 := fun x y hx hy => by
    have h1 := hoff x hx
    have h2 := hoff y hy
    unfold fw_D0 cr_offs
    split <;> omega
  have hD1 : ∀ k, k ≤ 12 → fw_B 1200 1200 (fw_D1 (cr_offs I) (cr_cka I) (cr_ckb I) (cr_ckw I) k) := by
    intro k
    induction k with
    | zero =>
      intro _ x y hx hy
      have := hD0 x y hx hy
      rw [fw_D1]
      omega
    | succ k ih =>
      intro hk x y hx hy
      have i1 := ih (by omega) x y hx hy
      have h1 := hab k (by omega)
      rw [fw_D1]
      unfold cr_up
      split
      · rename_i e
        rw [e.1, e.2] at i1
        omega
      · exact i1
  refine bk_yX0_layTogether_0 hτ h ⟨hoff, ?_⟩
  rintro J1 ⟨hf1, hm1⟩
  refine cr_loop (fun k => ∀ J, cr_fr 193 199 I J → cr_mat (fw_D1 (cr_offs I) (cr_cka I) (cr_ckb I) (cr_ckw I) k) J → cr_V Γ 6 [.ref 185, .int (nI k)] [] J (cr_rf τ) 247) (I 185 4).toNatClampNeg ?_ ?_ 0 (Nat.zero_le _) J1 hf1 hm1
  · intro J hf hm
    refine bk_yX0_layTogether_6 hτ h ⟨fun _ => ⟨fun x y hx hy => ?_, ?_⟩, fun c => absurd ?_ c⟩
    · rw [hm x y hx hy]; exact hD1 _ hN x y hx hy
    · rintro J2 ⟨hf2, hm2⟩
      have hfx := hf.tr hf2
      have hmx : cr_mat (cr_ckF I) J2 := by
        intro x y hx hy
        rw [hm2 x y hx hy]
        have key : ∀ (d d' : cr_M), (∀ x y, x < 7 → y < 7 → d x y = d' x y) → ∀ m, m ≤ 7 → ∀ x y, x < 7 → y < 7 → fw_A m d x y = fw_A m d' x y := by
          intro d d' he m
          have k1 : ∀ (v i j : Nat), v < 7 → i < 7 → j < 7 → ∀ (e e' : cr_M), (∀ x y, x < 7 → y < 7 → e x y = e' x y) → ∀ x y, x < 7 → y < 7 → fw_1 v i j e x y = fw_1 v i j e' x y := by
            intro v i j hv hi hj e e' hee x y hx hy
            unfold fw_1 cr_up
            split
            · rw [hee i j hi hj, hee i v hi hv, hee v j hv hj]
            · exact hee x y hx hy
          have k2 : ∀ (v i : Nat), v < 7 → i < 7 → ∀ m, m ≤ 7 → ∀ (e e' : cr_M), (∀ x y, x < 7 → y < 7 → e x y = e' x y) → ∀ x y, x < 7 → y < 7 → fw_R v i m e x y = fw_R v i m e' x y := by
            intro v i hv hi m
            induction m with
            | zero => intro _ e e' hee; exact hee
            | succ m ih => intro hm e e' hee; exact k1 v i m hv hi (by omega) _ _ (ih (by omega) e e' hee)
          have k3 : ∀ (v : Nat), v < 7 → ∀ m, m ≤ 7 → ∀ (e e' : cr_M), (∀ x y, x < 7 → y < 7 → e x y = e' x y) → ∀ x y, x < 7 → y < 7 → fw_P v m e x y = fw_P v m e' x y := by
            intro v hv m
            induction m with
            | zero => intro _ e e' hee; exact hee
            | succ m ih => intro hm e e' hee; exact k2 v m hv (by omega) 7 (Nat.le_refl _) _ _ (ih (by omega) e e' hee)
          induction m with
          | zero => intro _; exact he
          | succ m ih => intro hm; exact k3 m (by omega) 7 (Nat.le_refl _) _ _ (ih (by omega))
        exact key _ _ (fun x y hx hy => hm x y hx hy) 7 (Nat.le_refl _) x y hx hy
      refine cr_loop (fun k => (∀ i, i < k → 0 ≤ cr_ckF I i i) → cr_V Γ 48 [.ref 185, .int (nI k)] [] J2 (cr_rf τ) 247) 7 ?_ ?_ 0 (Nat.zero_le _) (fun i hi => absurd hi (Nat.not_lt_zero _))
      · intro hd
        exact bk_yX0_layTogether_48 hτ h ⟨fun _ => hK 1 J2 ⟨hfx, hmx, Or.inl ⟨rfl, hd⟩⟩, fun c => absurd (by decide) c⟩
      · intro k hk ihk hd
        have hxk : (0 : Int) ≤ (nI k).toInt ∧ (nI k).toInt < 7 := cr_ix (by omega) (by omega)
        refine bk_yX0_layTogether_48 hτ h ⟨fun c => absurd c (cr_nlt7 hk), fun _ => ⟨hxk, hxk, fun c => ?_, fun c => ?_⟩⟩
        · rintro v rfl
          rw [nI_1]
          rw [cr_nc (by omega), cr_le, hmx k k hk hk] at c
          refine ihk (fun i hi => ?_)
          by_cases q : i = k
          · rw [q]; exact c
          · exact hd i (by omega)
        · rw [cr_nc (by omega), cr_le, hmx k k hk hk] at c
          exact hK 0 J2 ⟨hfx, hmx, Or.inr ⟨rfl, k, hk, Int.not_le.mp c⟩⟩
    · rw [hf 185 4 (by omega), ← eN]; exact Int32.le_refl _
  · intro k hk ih J hf hm
    have hk12 : k < 12 := by omega
    have hxk : (0 : Int) ≤ (nI k).toInt ∧ (nI k).toInt < 12 := cr_ix (by omega) (by omega)
    obtain ⟨o1, o2, o3⟩ := w3 k hk12
    have n1 := cr_cn (N := 12) o1
    have n2 := cr_cn (N := 12) o2
    have c1 := w2 _ n1
    have c2 := w2 _ n2
    have habk := hab k hk12
    refine bk_yX0_layTogether_6 hτ h ⟨fun c => absurd c ?_, fun _ => ⟨hxk, hxk, hxk, ?_⟩⟩
    · rw [hf 185 4 (by omega), eN]; exact cr_nle hk (by omega)
    · rw [cr_nc (by omega), hf 189 k (by omega), hf 190 k (by omega), hf 191 k (by omega)]
      unfold t_yX0_heedAfter
      rw [hf 188 _ (by omega), hf 188 _ (by omega), hf 187 _ (by omega), hf 187 _ (by omega)]
      refine ⟨o2, o1, ?_⟩
      intro v1 e1
      refine ⟨o1, ?_⟩
      rintro v2 rfl
      refine ⟨o2, ?_⟩
      rintro v3 rfl
      refine ⟨⟨c1.1.1, by omega⟩, ⟨c1.1.1, by omega⟩, ⟨c2.1.1, by omega⟩, ⟨c2.1.1, by omega⟩, ?_⟩
      rintro J1 rfl v rfl
      rw [nI_1]
      refine ih _ (hf.up (by omega) (by have := habk.1; unfold cr_cka at this; omega)) ?_
      rw [fw_D1]
      refine cr_mat_up hm ?_
      have ew : v1.toInt = -(cr_ckw I k) := by
        rw [e1, cr_sub (by rw [cr_sub (by omega)]; omega), cr_sub (by omega)]
        unfold cr_ckw
        omega
      rw [cr_min, ew]
      have em := hm (cr_cka I k) (cr_ckb I k) (by omega) (by omega)
      unfold cr_cka cr_ckb at em
      rw [em]
      rfl)
def f_yX0_earliest (τ : Nat → Nat) (x1 : Int32) (I : cr_I) : Int32 := ((I 188 x1.toNatClampNeg) - (I 199 (I 187 x1.toNatClampNeg).toNatClampNeg))
def p_yX0_earliest (τ : Nat → Nat) (x1 : Int32) (I : cr_I) : Prop := (0 ≤ x1.toInt ∧ x1.toInt < 12) ∧ (0 ≤ x1.toInt ∧ x1.toInt < 12) ∧ (0 ≤ (I 187 x1.toNatClampNeg).toInt ∧ (I 187 x1.toNatClampNeg).toInt < 7) ∧ True
abbrev T_yX0_earliest : cr_T := fun vs I R K => ∃ (τ : Nat → Nat) (x1 : Int32), R = cr_rf τ ∧ cr_tau τ ∧ vs = [.ref 185, .int x1] ∧ p_yX0_earliest τ x1 I ∧ K (some (.int (f_yX0_earliest τ x1 I))) I (cr_rf τ)
theorem C_yX0_earliest : cr_C yX0_earliest cX0_earliest 2 (some .int) (cr_rm0 0 0) 247 247 T_yX0_earliest := by
  refine cr_C.of (by decide +kernel) (fun vs I R K hT => ?_) (fun Γ K h vs I R hT => ?_)
  · obtain ⟨τ, x1, rfl, hτ, rfl, hyp, hK⟩ := hT
    exact Nat.le_of_ble_eq_true rfl
  · obtain ⟨τ, x1, rfl, hτ, rfl, hyp, hK⟩ := hT
    show cr_V Γ 0 [.ref 185, .int x1] [] I (cr_rf τ) 247
    refine cr_aload_n h (j := 0) rfl rfl dX0_earliest_0 ?_
    refine cr_getR h (k := 3) cr_clsX0 (by decide) rfl rfl wf_X0_22 (by decide) rfl rfl dX0_earliest_1 ?_
    refine cr_iload_n h (j := 1) rfl rfl dX0_earliest_4 ?_
    refine cs_ild h (by decide) rfl hyp.1 (q := x1.toNatClampNeg) rfl dX0_earliest_5 ?_
    have hyp := hyp.2
    refine cr_aload_n h (j := 0) rfl rfl dX0_earliest_6 ?_
    refine cr_getR h (k := 8) cr_clsX0 (by decide) rfl rfl wf_X0_39 (by decide) rfl rfl dX0_earliest_7 ?_
    refine cr_bipush h (v := (6 : Int32)) (by decide) dX0_earliest_10 ?_
    refine cr_aald h (by decide) rfl (by decide) rfl dX0_earliest_12 ?_
    refine cr_aload_n h (j := 0) rfl rfl dX0_earliest_13 ?_
    refine cr_getR h (k := 2) cr_clsX0 (by decide) rfl rfl wf_X0_19 (by decide) rfl rfl dX0_earliest_14 ?_
    refine cr_iload_n h (j := 1) rfl rfl dX0_earliest_17 ?_
    refine cs_ild h (by decide) rfl hyp.1 (q := x1.toNatClampNeg) rfl dX0_earliest_18 ?_
    have hyp := hyp.2
    refine cs_ild h (by decide) rfl hyp.1 (q := (I 187 x1.toNatClampNeg).toNatClampNeg) rfl dX0_earliest_19 ?_
    have hyp := hyp.2
    refine cr_isub h dX0_earliest_20 ?_
    refine cr_iret h rfl rfl rfl dX0_earliest_21 ?_
    rw [f_yX0_earliest] at hK
    exact hK
def f_yX0_latest (τ : Nat → Nat) (x1 : Int32) (I : cr_I) : Int32 := ((I 188 x1.toNatClampNeg) + (I (193 + (I 187 x1.toNatClampNeg).toNatClampNeg) 6))
def p_yX0_latest (τ : Nat → Nat) (x1 : Int32) (I : cr_I) : Prop := (0 ≤ x1.toInt ∧ x1.toInt < 12) ∧ (0 ≤ x1.toInt ∧ x1.toInt < 12) ∧ (0 ≤ (I 187 x1.toNatClampNeg).toInt ∧ (I 187 x1.toNatClampNeg).toInt < 7) ∧ True
abbrev T_yX0_latest : cr_T := fun vs I R K => ∃ (τ : Nat → Nat) (x1 : Int32), R = cr_rf τ ∧ cr_tau τ ∧ vs = [.ref 185, .int x1] ∧ p_yX0_latest τ x1 I ∧ K (some (.int (f_yX0_latest τ x1 I))) I (cr_rf τ)
theorem C_yX0_latest : cr_C yX0_latest cX0_latest 2 (some .int) (cr_rm0 0 0) 247 247 T_yX0_latest := by
  refine cr_C.of (by decide +kernel) (fun vs I R K hT => ?_) (fun Γ K h vs I R hT => ?_)
  · obtain ⟨τ, x1, rfl, hτ, rfl, hyp, hK⟩ := hT
    exact Nat.le_of_ble_eq_true rfl
  · obtain ⟨τ, x1, rfl, hτ, rfl, hyp, hK⟩ := hT
    show cr_V Γ 0 [.ref 185, .int x1] [] I (cr_rf τ) 247
    refine cr_aload_n h (j := 0) rfl rfl dX0_latest_0 ?_
    refine cr_getR h (k := 3) cr_clsX0 (by decide) rfl rfl wf_X0_22 (by decide) rfl rfl dX0_latest_1 ?_
    refine cr_iload_n h (j := 1) rfl rfl dX0_latest_4 ?_
    refine cs_ild h (by decide) rfl hyp.1 (q := x1.toNatClampNeg) rfl dX0_latest_5 ?_
    have hyp := hyp.2
    refine cr_aload_n h (j := 0) rfl rfl dX0_latest_6 ?_
    refine cr_getR h (k := 8) cr_clsX0 (by decide) rfl rfl wf_X0_39 (by decide) rfl rfl dX0_latest_7 ?_
    refine cr_aload_n h (j := 0) rfl rfl dX0_latest_10 ?_
    refine cr_getR h (k := 2) cr_clsX0 (by decide) rfl rfl wf_X0_19 (by decide) rfl rfl dX0_latest_11 ?_
    refine cr_iload_n h (j := 1) rfl rfl dX0_latest_14 ?_
    refine cs_ild h (by decide) rfl hyp.1 (q := x1.toNatClampNeg) rfl dX0_latest_15 ?_
    have hyp := hyp.2
    have hb1 := hyp.1
    have hyp := hyp.2
    refine cr_aald h (by decide) rfl hb1 ((kr_192 hb1).2.2 τ) dX0_latest_16 ?_
    refine cr_bipush h (v := (6 : Int32)) (by decide) dX0_latest_17 ?_
    refine cs_ild h (kr_192 hb1).1 (kr_192 hb1).2.1 (by decide) (q := 6) (by decide) dX0_latest_19 ?_
    refine cr_iadd h dX0_latest_20 ?_
    refine cr_iret h rfl rfl rfl dX0_latest_21 ?_
    rw [f_yX0_latest] at hK
    exact hK
def t_yX8_agree (τ : Nat → Nat) (I : cr_I) (Q : Int32 → cr_I → Prop) : Prop := p_yX0_layTogether τ I ∧ (∀ (r1 : Int32) (J1 : cr_I), q_yX0_layTogether τ I r1 J1 → ((r1 = 0 → Q (0 : Int32) J1) ∧ (¬ r1 = 0 → Q (1 : Int32) J1)))
abbrev T_yX8_agree : cr_T := fun vs I R K => ∃ (τ : Nat → Nat) (Q : Int32 → cr_I → Prop), R = cr_rf τ ∧ cr_tau τ ∧ vs = [.ref 0] ∧ t_yX8_agree τ I Q ∧ ∀ r J, Q r J → K (some (.int r)) J (cr_rf τ)
theorem C_yX8_agree : cr_C yX8_agree cX8_agree 1 (some .int) (cr_rm0 3 68) 247 247 T_yX8_agree := by
  refine cr_C.of (by decide +kernel) (fun vs I R K hT => ?_) (fun Γ K h vs I R hT => ?_)
  · obtain ⟨τ, Q, rfl, hτ, rfl, hyp, hK⟩ := hT
    exact Nat.le_of_ble_eq_true rfl
  · obtain ⟨τ, Q, rfl, hτ, rfl, hyp, hK⟩ := hT
    unfold t_yX8_agree at hyp
    show cr_V Γ 0 [.ref 0] [] I (cr_rf τ) 247
    refine cr_aload_n h (j := 0) rfl rfl dX8_agree_0 ?_
    refine cr_getR h (k := 5) cr_clsX8 (by decide) rfl rfl wf_X8_47 (by decide) rfl rfl dX8_agree_1 ?_
    refine cr_callV h (c0 := 0) (T0 := TX0) C_yX0_layTogether cZ_yX0_layTogether wm_X8_306 wv_yX0_layTogether we_yX0_layTogether (by decide) rfl rfl (cr_rmS (by decide) (by decide)) (As := []) rfl (Nat.le_of_ble_eq_true rfl) dX8_agree_4 ⟨τ, rfl, hτ, rfl, hyp.1, fun r1 J1 q1 => ?_⟩
    have hyp := hyp.2 r1 J1 q1
    show cr_V Γ 7 [.ref 0] [.int r1] J1 (cr_rf τ) 247
    refine cr_if_eq h (tgt := 14) (by decide) dX8_agree_7 (fun c1 => ?_) (fun c1 => ?_)
    · have hyp := hyp.1 c1
      refine cr_iconst h (v := (0 : Int32)) (by decide) dX8_agree_14 ?_
      refine cr_iret h rfl rfl rfl dX8_agree_15 ?_
      exact hK _ _ hyp
    · have hyp := hyp.2 c1
      refine cr_iconst h (v := (1 : Int32)) (by decide) dX8_agree_10 ?_
      refine cr_goto h (tgt := 15) (by decide) dX8_agree_11 ?_
      refine cr_iret h rfl rfl rfl dX8_agree_15 ?_
      exact hK _ _ hyp
def t_yX8_span (τ : Nat → Nat) (x1 : Int32) (x2 : Int32) (I : cr_I) (Q : Int32 → cr_I → Prop) : Prop := (¬ (f_yX8_isNoEvent τ x1 I) = 0 → Q (-2147483648 : Int32) I) ∧ ((f_yX8_isNoEvent τ x1 I) = 0 → ((¬ (f_yX8_isOutside τ x2 (0 : Int32) (1 : Int32) I) = 0 → Q (-2147483648 : Int32) I) ∧ ((f_yX8_isOutside τ x2 (0 : Int32) (1 : Int32) I) = 0 → (p_yX0_layTogether τ I ∧ (∀ (r1 : Int32) (J1 : cr_I), q_yX0_layTogether τ I r1 J1 → ((¬ r1 = 0 → ((¬ x2 = 0 → (p_yX0_latest τ x1 J1 ∧ Q (f_yX0_latest τ x1 J1) J1)) ∧ (x2 = 0 → (p_yX0_earliest τ x1 J1 ∧ Q (f_yX0_earliest τ x1 J1) J1)))) ∧ (r1 = 0 → Q (-2147483648 : Int32) J1)))))))
abbrev T_yX8_span : cr_T := fun vs I R K => ∃ (τ : Nat → Nat) (x1 : Int32) (x2 : Int32) (Q : Int32 → cr_I → Prop), R = cr_rf τ ∧ cr_tau τ ∧ vs = [.ref 0, .int x1, .int x2] ∧ t_yX8_span τ x1 x2 I Q ∧ ∀ r J, Q r J → K (some (.int r)) J (cr_rf τ)
theorem C_yX8_span : cr_C yX8_span cX8_span 3 (some .int) (cr_rm0 3 68) 247 247 T_yX8_span := by
  refine cr_C.of (by decide +kernel) (fun vs I R K hT => ?_) (fun Γ K h vs I R hT => ?_)
  · obtain ⟨τ, x1, x2, Q, rfl, hτ, rfl, hyp, hK⟩ := hT
    exact Nat.le_of_ble_eq_true rfl
  · obtain ⟨τ, x1, x2, Q, rfl, hτ, rfl, hyp, hK⟩ := hT
    unfold t_yX8_span at hyp
    show cr_V Γ 0 [.ref 0, .int x1, .int x2] [] I (cr_rf τ) 247
    refine cr_aload_n h (j := 0) rfl rfl dX8_span_0 ?_
    refine cr_iload_n h (j := 1) rfl rfl dX8_span_1 ?_
    refine cr_callV h (c0 := 8) (T0 := TX8) C_yX8_isNoEvent cZ_yX8_isNoEvent wm_X8_291 wv_yX8_isNoEvent we_yX8_isNoEvent (by decide) rfl rfl (cr_rmS (by decide) (by decide)) (As := [.int x1]) rfl (Nat.le_of_ble_eq_true rfl) dX8_span_2 ⟨τ, x1, rfl, hτ, rfl, ?_⟩
    show cr_V Γ 5 [.ref 0, .int x1, .int x2] [.int (f_yX8_isNoEvent τ x1 I)] I (cr_rf τ) 247
    refine cr_if_ne h (tgt := 27) (by decide) dX8_span_5 (fun c1 => ?_) (fun c1 => ?_)
    · have hyp := hyp.1 c1
      refine cr_ldc h wc_X8_168 dX8_span_27 ?_
      refine cr_iret h rfl rfl rfl dX8_span_29 ?_
      exact hK _ _ hyp
    · have hyp := hyp.2 c1
      refine cr_iload_n h (j := 2) rfl rfl dX8_span_8 ?_
      refine cr_iconst h (v := (0 : Int32)) (by decide) dX8_span_9 ?_
      refine cr_iconst h (v := (1 : Int32)) (by decide) dX8_span_10 ?_
      refine cr_callS h C_yX8_isOutside cZ_yX8_isOutside wm_X8_55 ws_yX8_isOutside (cr_rmS (by decide) (by decide)) (As := [.int x2, .int (0 : Int32), .int (1 : Int32)]) rfl (Nat.le_of_ble_eq_true rfl) dX8_span_11 ⟨τ, x2, (0 : Int32), (1 : Int32), rfl, hτ, rfl, ?_⟩
      show cr_V Γ 14 [.ref 0, .int x1, .int x2] [.int (f_yX8_isOutside τ x2 (0 : Int32) (1 : Int32) I)] I (cr_rf τ) 247
      refine cr_if_ne h (tgt := 27) (by decide) dX8_span_14 (fun c2 => ?_) (fun c2 => ?_)
      · have hyp := hyp.1 c2
        refine cr_ldc h wc_X8_168 dX8_span_27 ?_
        refine cr_iret h rfl rfl rfl dX8_span_29 ?_
        exact hK _ _ hyp
      · have hyp := hyp.2 c2
        refine cr_aload_n h (j := 0) rfl rfl dX8_span_17 ?_
        refine cr_getR h (k := 5) cr_clsX8 (by decide) rfl rfl wf_X8_47 (by decide) rfl rfl dX8_span_18 ?_
        refine cr_callV h (c0 := 0) (T0 := TX0) C_yX0_layTogether cZ_yX0_layTogether wm_X8_306 wv_yX0_layTogether we_yX0_layTogether (by decide) rfl rfl (cr_rmS (by decide) (by decide)) (As := []) rfl (Nat.le_of_ble_eq_true rfl) dX8_span_21 ⟨τ, rfl, hτ, rfl, hyp.1, fun r1 J1 q1 => ?_⟩
        have hyp := hyp.2 r1 J1 q1
        show cr_V Γ 24 [.ref 0, .int x1, .int x2] [.int r1] J1 (cr_rf τ) 247
        refine cr_if_ne h (tgt := 30) (by decide) dX8_span_24 (fun c3 => ?_) (fun c3 => ?_)
        · have hyp := hyp.1 c3
          refine cr_iload_n h (j := 2) rfl rfl dX8_span_30 ?_
          refine cr_if_ne h (tgt := 45) (by decide) dX8_span_31 (fun c4 => ?_) (fun c4 => ?_)
          · have hyp := hyp.1 c4
            refine cr_aload_n h (j := 0) rfl rfl dX8_span_45 ?_
            refine cr_getR h (k := 5) cr_clsX8 (by decide) rfl rfl wf_X8_47 (by decide) rfl rfl dX8_span_46 ?_
            refine cr_iload_n h (j := 1) rfl rfl dX8_span_49 ?_
            refine cr_callV h (c0 := 0) (T0 := TX0) C_yX0_latest cZ_yX0_latest wm_X8_313 wv_yX0_latest we_yX0_latest (by decide) rfl rfl (cr_rmS (by decide) (by decide)) (As := [.int x1]) rfl (Nat.le_of_ble_eq_true rfl) dX8_span_50 ⟨τ, x1, rfl, hτ, rfl, hyp.1, ?_⟩
            have hyp := hyp.2
            show cr_V Γ 53 [.ref 0, .int x1, .int x2] [.int (f_yX0_latest τ x1 J1)] J1 (cr_rf τ) 247
            refine cr_iret h rfl rfl rfl dX8_span_53 ?_
            exact hK _ _ hyp
          · have hyp := hyp.2 c4
            refine cr_aload_n h (j := 0) rfl rfl dX8_span_34 ?_
            refine cr_getR h (k := 5) cr_clsX8 (by decide) rfl rfl wf_X8_47 (by decide) rfl rfl dX8_span_35 ?_
            refine cr_iload_n h (j := 1) rfl rfl dX8_span_38 ?_
            refine cr_callV h (c0 := 0) (T0 := TX0) C_yX0_earliest cZ_yX0_earliest wm_X8_310 wv_yX0_earliest we_yX0_earliest (by decide) rfl rfl (cr_rmS (by decide) (by decide)) (As := [.int x1]) rfl (Nat.le_of_ble_eq_true rfl) dX8_span_39 ⟨τ, x1, rfl, hτ, rfl, hyp.1, ?_⟩
            have hyp := hyp.2
            show cr_V Γ 42 [.ref 0, .int x1, .int x2] [.int (f_yX0_earliest τ x1 J1)] J1 (cr_rf τ) 247
            refine cr_goto h (tgt := 53) (by decide) dX8_span_42 ?_
            refine cr_iret h rfl rfl rfl dX8_span_53 ?_
            exact hK _ _ hyp
        · have hyp := hyp.2 c3
          refine cr_ldc h wc_X8_168 dX8_span_27 ?_
          refine cr_iret h rfl rfl rfl dX8_span_29 ?_
          exact hK _ _ hyp
