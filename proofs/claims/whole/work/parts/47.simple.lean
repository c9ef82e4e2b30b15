/-! THE CALLS WITHOUT A LOOP -/
theorem cr_up_e {α : Type} {f : Nat → Nat → α} {b k b' k' : Nat} {v : α} (h : b' = b ∧ k' = k) : cr_up f b k v b' k' = v := if_pos h
theorem cr_sub1 {x : Int32} (h : -100 ≤ x.toInt) : (x - 1).toInt = x.toInt - 1 := by
  have z : (1 : Int32).toInt = 1 := rfl
  have := Int32.toInt_lt x
  rw [cr_sub (by omega), z]
theorem cr_add1 {x : Int32} (h : x.toInt ≤ 100000) : (x + 1).toInt = x.toInt + 1 := by
  have z : (1 : Int32).toInt = 1 := rfl
  have := Int32.le_toInt x
  rw [cr_add (by omega), z]
theorem cr_nopl {τ : Nat → Nat} {x1 x2 : Int32} {I : cr_I} : f_yX8_areNoPlaces τ x1 x2 I = 0 ↔ ((0 ≤ x1.toInt ∧ x1.toInt ≤ 2000) ∧ (x1.toInt ≤ x2.toInt ∧ x2.toInt ≤ 2000)) := by
  unfold f_yX8_areNoPlaces
  simp only [cr_out0]
  have z0 : (0 : Int32).toInt = 0 := rfl
  have z2 : (2000 : Int32).toInt = 2000 := rfl
  rw [z0, z2]
  by_cases c1 : 0 ≤ x1.toInt ∧ x1.toInt ≤ 2000
  · rw [if_pos c1]
    by_cases c2 : x1.toInt ≤ x2.toInt ∧ x2.toInt ≤ 2000
    · rw [if_pos c2]; exact ⟨fun _ => ⟨c1, c2⟩, fun _ => rfl⟩
    · rw [if_neg c2]; exact ⟨fun q => absurd q (by decide), fun q => absurd q.2 c2⟩
  · rw [if_neg c1]; exact ⟨fun q => absurd q (by decide), fun q => absurd q.1 c1⟩
theorem cr_n4 {x : Int32} {B : Nat} (h : 0 ≤ x.toInt ∧ x.toInt ≤ B) : x.toNatClampNeg ≤ B := by
  show x.toInt.toNat ≤ B
  omega
theorem zi_0 : (0 : Int32).toInt = 0 := rfl
theorem zl_0 : (0 : Int64).toInt = 0 := rfl
theorem zi_1 : (1 : Int32).toInt = 1 := rfl
theorem zl_1 : (1 : Int64).toInt = 1 := rfl
theorem zi_2 : (2 : Int32).toInt = 2 := rfl
theorem zl_2 : (2 : Int64).toInt = 2 := rfl
theorem zi_3 : (3 : Int32).toInt = 3 := rfl
theorem zl_3 : (3 : Int64).toInt = 3 := rfl
theorem zi_4 : (4 : Int32).toInt = 4 := rfl
theorem zl_4 : (4 : Int64).toInt = 4 := rfl
theorem zi_5 : (5 : Int32).toInt = 5 := rfl
theorem zl_5 : (5 : Int64).toInt = 5 := rfl
theorem zi_6 : (6 : Int32).toInt = 6 := rfl
theorem zl_6 : (6 : Int64).toInt = 6 := rfl
theorem zi_8 : (8 : Int32).toInt = 8 := rfl
theorem zl_8 : (8 : Int64).toInt = 8 := rfl
theorem zi_9 : (9 : Int32).toInt = 9 := rfl
theorem zl_9 : (9 : Int64).toInt = 9 := rfl
theorem zi_12 : (12 : Int32).toInt = 12 := rfl
theorem zl_12 : (12 : Int64).toInt = 12 := rfl
theorem zi_23 : (23 : Int32).toInt = 23 := rfl
theorem zl_23 : (23 : Int64).toInt = 23 := rfl
theorem zi_31 : (31 : Int32).toInt = 31 := rfl
theorem zl_31 : (31 : Int64).toInt = 31 := rfl
theorem zi_40 : (40 : Int32).toInt = 40 := rfl
theorem zl_40 : (40 : Int64).toInt = 40 := rfl
theorem zi_60 : (60 : Int32).toInt = 60 := rfl
theorem zl_60 : (60 : Int64).toInt = 60 := rfl
theorem zi_63 : (63 : Int32).toInt = 63 := rfl
theorem zl_63 : (63 : Int64).toInt = 63 := rfl
theorem zi_99 : (99 : Int32).toInt = 99 := rfl
theorem zl_99 : (99 : Int64).toInt = 99 := rfl
theorem zi_999 : (999 : Int32).toInt = 999 := rfl
theorem zl_999 : (999 : Int64).toInt = 999 := rfl
theorem zi_2000 : (2000 : Int32).toInt = 2000 := rfl
theorem zl_2000 : (2000 : Int64).toInt = 2000 := rfl
theorem zi_m9 : (-9 : Int32).toInt = -9 := rfl
theorem zl_m9 : (-9 : Int64).toInt = -9 := rfl
theorem zi_m1 : (-1 : Int32).toInt = -1 := rfl
theorem w8_make {τ : Nat → Nat} {I : cr_I} {x1 x2 x3 x4 x5 : Int32} {Q : Int32 → cr_I → Prop} (f1 : ¬ (0 ≤ x1.toInt ∧ x1.toInt ≤ 3) → Q (-2) I) (f2 : (0 ≤ x1.toInt ∧ x1.toInt ≤ 3) → ¬ ((1 ≤ x2.toInt ∧ x2.toInt ≤ 40) ∧ (1 ≤ x3.toInt ∧ x3.toInt ≤ 9) ∧ (1 ≤ x4.toInt ∧ x4.toInt ≤ 5) ∧ (0 ≤ x5.toInt ∧ x5.toInt ≤ 3)) → Q (-3) I) (ok : (0 ≤ x1.toInt ∧ x1.toInt ≤ 3) → ((1 ≤ x2.toInt ∧ x2.toInt ≤ 40) ∧ (1 ≤ x3.toInt ∧ x3.toInt ≤ 9) ∧ (1 ≤ x4.toInt ∧ x4.toInt ≤ 5) ∧ (0 ≤ x5.toInt ∧ x5.toInt ≤ 3)) → Q (1) (cr_up (cr_up (cr_up (cr_up I (29 + 25 * x1.toNatClampNeg) 0 x2) (29 + 25 * x1.toNatClampNeg) 1 x3) (29 + 25 * x1.toNatClampNeg) 2 x4) (29 + 25 * x1.toNatClampNeg) 3 x5)) : t_yX8_make τ x1 x2 x3 x4 x5 I Q := by
  unfold t_yX8_make
  simp only [f_yX8_isNoMake, f_yX8_isNoPerson, f_yX8_isNoClock, f_yX8_isNoEvent, f_yX8_isNoLorry, f_yX8_isNoFollower, cr_nopl, cr_out0, zi_0, zi_1, zi_2, zi_3, zi_4, zi_5, zi_6, zi_8, zi_9, zi_12, zi_23, zi_31, zi_40, zi_60, zi_63, zi_99, zi_999, zi_2000, zi_m9, zl_0, zl_1, zl_2, zl_3, zl_4, zl_5, zl_6, zl_8, zl_9, zl_12, zl_23, zl_31, zl_40, zl_60, zl_63, zl_99, zl_999, zl_2000, zl_m9]
  repeat' (first | apply And.intro | intro _)
  all_goals (try subst_vars)
  all_goals (try simp only [cr_up_s])
  all_goals first | omega | exact f1 (by omega) | exact f2 (by omega) (by omega) | exact ok (by omega) (by omega)
theorem w9_make {τ : Nat → Nat} {I : cr_I} {x1 x2 x3 x4 x5 : Int32} {Q : Int32 → cr_I → Prop} (f1 : ¬ (0 ≤ x1.toInt ∧ x1.toInt ≤ 3) → Q (-2) I) (f2 : (0 ≤ x1.toInt ∧ x1.toInt ≤ 3) → ¬ ((1 ≤ x2.toInt ∧ x2.toInt ≤ 40) ∧ (1 ≤ x3.toInt ∧ x3.toInt ≤ 9) ∧ (1 ≤ x4.toInt ∧ x4.toInt ≤ 5) ∧ (0 ≤ x5.toInt ∧ x5.toInt ≤ 3)) → Q (-3) I) (ok : (0 ≤ x1.toInt ∧ x1.toInt ≤ 3) → ((1 ≤ x2.toInt ∧ x2.toInt ≤ 40) ∧ (1 ≤ x3.toInt ∧ x3.toInt ≤ 9) ∧ (1 ≤ x4.toInt ∧ x4.toInt ≤ 5) ∧ (0 ≤ x5.toInt ∧ x5.toInt ≤ 3)) → Q (1) (cr_up (cr_up (cr_up (cr_up I 201 x1.toNatClampNeg x2) 202 x1.toNatClampNeg x3) 203 x1.toNatClampNeg x4) 204 x1.toNatClampNeg x5)) : t_yX9_make τ x1 x2 x3 x4 x5 I Q := by
  unfold t_yX9_make
  simp only [f_yX9_isMake, f_yX9_isSix, f_yX9_isLorry, f_yX9_isEvent, cr_in0, Int32.toInt_toInt64, Classical.not_not, zi_0, zi_1, zi_2, zi_3, zi_4, zi_5, zi_6, zi_8, zi_9, zi_12, zi_23, zi_31, zi_40, zi_60, zi_63, zi_99, zi_999, zi_2000, zi_m9, zl_0, zl_1, zl_2, zl_3, zl_4, zl_5, zl_6, zl_8, zl_9, zl_12, zl_23, zl_31, zl_40, zl_60, zl_63, zl_99, zl_999, zl_2000, zl_m9]
  repeat' (first | apply And.intro | intro _)
  all_goals (try subst_vars)
  all_goals (try simp only [cr_up_s])
  all_goals first | omega | exact f1 (by omega) | exact f2 (by omega) (by omega) | exact ok (by omega) (by omega)
theorem S_make {x1 x2 x3 x4 x5 : Int32} : cr_S T_yX8_make T_yX9_make [.int x1, .int x2, .int x3, .int x4, .int x5] := by
  intro τ I K h hk
  obtain ⟨h0, htx, hmk, htb, hro, hse, hpu, hlo, hhi, hst, hjo, hsp, hck⟩ := id h
  have fin : ∀ (r : Int32) (J : cr_I), (∀ Q2 : Int32 → cr_I → Prop, (∀ I2, cr_Rel τ I2 → Q2 r I2) → t_yX9_make τ x1 x2 x3 x4 x5 J Q2) → K (some (.int r)) J (cr_rf τ) := fun r J h9 => hk r J τ fun K2 k2 => ⟨τ, x1, x2, x3, x4, x5, fun r' J' => K2 (some (.int r')) J' (cr_rf τ), rfl, h0, rfl, h9 _ k2, fun _ _ q => q⟩
  refine ⟨τ, x1, x2, x3, x4, x5, fun r J => K (some (.int r)) J (cr_rf τ), rfl, h0, rfl, ?_, fun _ _ q => q⟩
  refine w8_make (fun c1 => ?_) (fun c1 c2 => ?_) (fun c1 c2 => ?_)
  · refine fin _ _ fun Q2 q2 => w9_make (fun d1 => by first | (exfalso; omega) | exact q2 _ h) (fun d1 d2 => by first | (exfalso; omega) | exact q2 _ h) (fun d1 d2 => by first | (exfalso; omega) | exact q2 _ h)
  · refine fin _ _ fun Q2 q2 => w9_make (fun d1 => by first | (exfalso; omega) | exact q2 _ h) (fun d1 d2 => by first | (exfalso; omega) | exact q2 _ h) (fun d1 d2 => by first | (exfalso; omega) | exact q2 _ h)
  · have hm : x1.toNatClampNeg ≤ 3 := cr_n4 c1
    refine fin _ _ fun Q2 q2 => w9_make (fun d1 => by exfalso; omega) (fun d1 d2 => by exfalso; omega) (fun d1 d2 => q2 _ ?_)
    generalize x1.toNatClampNeg = m at hm
    refine ⟨h0, (htx.fr fun b k hb => by unfold rl_tx at hb; simp (disch := omega) only [cr_up_e, cr_up_n]), ?_, (htb.fr h0 fun b k hb => by unfold rl_tb rl_tm at hb; simp (disch := omega) only [cr_up_e, cr_up_n]), (hro.fr fun b k hb => by unfold rl_ro at hb; simp (disch := omega) only [cr_up_e, cr_up_n]), (hse.fr fun b k hb => by unfold rl_se at hb; simp (disch := omega) only [cr_up_e, cr_up_n]), (hpu.fr fun b k hb => by unfold rl_pu at hb; simp (disch := omega) only [cr_up_e, cr_up_n]), (hlo.fr fun b k hb => by unfold rl_lo at hb; simp (disch := omega) only [cr_up_e, cr_up_n]), (hhi.fr fun b k hb => by unfold rl_hi at hb; simp (disch := omega) only [cr_up_e, cr_up_n]), (hst.fr fun b k hb => by unfold rl_st at hb; simp (disch := omega) only [cr_up_e, cr_up_n]), (hjo.fr fun b k hb => by unfold rl_jo at hb; simp (disch := omega) only [cr_up_e, cr_up_n]), (hsp.fr fun b k hb => by unfold rl_sp at hb; simp (disch := omega) only [cr_up_e, cr_up_n]), (hck.fr fun b k hb => by unfold rl_ck at hb; simp (disch := omega) only [cr_up_e, cr_up_n])⟩
    intro i hi
    obtain ⟨g0, g1, g2, g3, g4⟩ := hmk i hi
    unfold cr_mkok at g0 ⊢
    by_cases e : i = m
    · simp (disch := omega) only [cr_up_e, cr_up_n]
      exact ⟨⟨c2.1, c2.2.1, c2.2.2.1, c2.2.2.2⟩, by trivial, by trivial, by trivial, by trivial⟩
    · simp (disch := omega) only [cr_up_e, cr_up_n]
      exact ⟨g0, g1, g2, g3, g4⟩
theorem S_erase : cr_S T_yX8_erase T_yX9_erase [] := by
  intro τ I K h hk
  obtain ⟨h0, htx, hmk, htb, hro, hse, hpu, hlo, hhi, hst, hjo, hsp, hck⟩ := id h
  refine ⟨τ, fun r J => K (some (.int r)) J (cr_rf τ), rfl, h0, rfl, ?_, fun _ _ q => q⟩
  rintro _ rfl _ rfl
  refine hk _ _ τ fun K2 k2 => ⟨τ, fun r J => K2 (some (.int r)) J (cr_rf τ), rfl, h0, rfl, ?_, fun _ _ q => q⟩
  rintro _ rfl _ rfl
  have e : cr_up I 1 1 0 200 5 = I 1 1 := by rw [cr_up_b (by decide)]; exact htx.2.1
  show K2 (some (.int (cr_up I 1 1 0 200 5))) _ _
  rw [e]
  refine k2 _ ?_
  refine ⟨h0, ?_, (hmk.fr fun b k hb => by unfold rl_mk at hb; simp (disch := omega) only [cr_up_e, cr_up_n]), (htb.fr h0 fun b k hb => by unfold rl_tb rl_tm at hb; simp (disch := omega) only [cr_up_e, cr_up_n]), (hro.fr fun b k hb => by unfold rl_ro at hb; simp (disch := omega) only [cr_up_e, cr_up_n]), (hse.fr fun b k hb => by unfold rl_se at hb; simp (disch := omega) only [cr_up_e, cr_up_n]), (hpu.fr fun b k hb => by unfold rl_pu at hb; simp (disch := omega) only [cr_up_e, cr_up_n]), (hlo.fr fun b k hb => by unfold rl_lo at hb; simp (disch := omega) only [cr_up_e, cr_up_n]), (hhi.fr fun b k hb => by unfold rl_hi at hb; simp (disch := omega) only [cr_up_e, cr_up_n]), (hst.fr fun b k hb => by unfold rl_st at hb; simp (disch := omega) only [cr_up_e, cr_up_n]), (hjo.fr fun b k hb => by unfold rl_jo at hb; simp (disch := omega) only [cr_up_e, cr_up_n]), (hsp.fr fun b k hb => by unfold rl_sp at hb; simp (disch := omega) only [cr_up_e, cr_up_n]), (hck.fr fun b k hb => by unfold rl_ck at hb; simp (disch := omega) only [cr_up_e, cr_up_n])⟩
  unfold cr_Rtx
  refine ⟨?_, ?_, funext fun k => ?_⟩
  · simp (disch := omega) only [cr_up_e, cr_up_n]; decide
  · simp (disch := omega) only [cr_up_e, cr_up_n]
  · simp (disch := omega) only [cr_up_e, cr_up_n]
    exact congrFun htx.2.2 k
theorem S_calm : cr_S T_yX8_calm T_yX9_calm [] := by
  intro τ I K h hk
  obtain ⟨h0, htx, hmk, htb, hro, hse, hpu, hlo, hhi, hst, hjo, hsp, hck⟩ := id h
  refine ⟨τ, fun r J => K (some (.int r)) J (cr_rf τ), rfl, h0, rfl, ?_, fun _ _ q => q⟩
  rintro _ rfl _ rfl
  refine hk _ _ τ fun K2 k2 => ⟨τ, fun r J => K2 (some (.int r)) J (cr_rf τ), rfl, h0, rfl, ?_, fun _ _ q => q⟩
  rintro _ rfl _ rfl
  have e : cr_up I 27 5 0 200 18 = I 27 5 := by rw [cr_up_b (by decide)]; exact hpu.2.1
  show K2 (some (.int (cr_up I 27 5 0 200 18))) _ _
  rw [e]
  refine k2 _ ?_
  refine ⟨h0, (htx.fr fun b k hb => by unfold rl_tx at hb; simp (disch := omega) only [cr_up_e, cr_up_n]), (hmk.fr fun b k hb => by unfold rl_mk at hb; simp (disch := omega) only [cr_up_e, cr_up_n]), (htb.fr h0 fun b k hb => by unfold rl_tb rl_tm at hb; simp (disch := omega) only [cr_up_e, cr_up_n]), (hro.fr fun b k hb => by unfold rl_ro at hb; simp (disch := omega) only [cr_up_e, cr_up_n]), (hse.fr fun b k hb => by unfold rl_se at hb; simp (disch := omega) only [cr_up_e, cr_up_n]), ?_, (hlo.fr fun b k hb => by unfold rl_lo at hb; simp (disch := omega) only [cr_up_e, cr_up_n]), (hhi.fr fun b k hb => by unfold rl_hi at hb; simp (disch := omega) only [cr_up_e, cr_up_n]), (hst.fr fun b k hb => by unfold rl_st at hb; simp (disch := omega) only [cr_up_e, cr_up_n]), (hjo.fr fun b k hb => by unfold rl_jo at hb; simp (disch := omega) only [cr_up_e, cr_up_n]), (hsp.fr fun b k hb => by unfold rl_sp at hb; simp (disch := omega) only [cr_up_e, cr_up_n]), (hck.fr fun b k hb => by unfold rl_ck at hb; simp (disch := omega) only [cr_up_e, cr_up_n])⟩
  unfold cr_Rpu
  refine ⟨?_, ?_, funext fun k => ?_, funext fun k => ?_, fun k => ?_⟩
  · simp (disch := omega) only [cr_up_e, cr_up_n]; decide
  · simp (disch := omega) only [cr_up_e, cr_up_n]
  · simp (disch := omega) only [cr_up_e, cr_up_n]
    exact congrFun hpu.2.2.1 k
  · simp (disch := omega) only [cr_up_e, cr_up_n]
    exact congrFun hpu.2.2.2.1 k
  · simp (disch := omega) only [cr_up_e, cr_up_n]
    exact hpu.2.2.2.2 k
theorem S_clear : cr_S T_yX8_clear T_yX9_clear [] := by
  intro τ I K h hk
  obtain ⟨h0, htx, hmk, htb, hro, hse, hpu, hlo, hhi, hst, hjo, hsp, hck⟩ := id h
  refine ⟨τ, fun r J => K (some (.int r)) J (cr_rf τ), rfl, h0, rfl, ?_, fun _ _ q => q⟩
  rintro _ rfl _ rfl
  refine hk _ _ τ fun K2 k2 => ⟨τ, fun r J => K2 (some (.int r)) J (cr_rf τ), rfl, h0, rfl, ?_, fun _ _ q => q⟩
  rintro _ rfl _ rfl
  have e : cr_up I 169 0 0 200 34 = I 169 0 := by rw [cr_up_b (by decide)]; exact hjo.2.2.1
  show K2 (some (.int (cr_up I 169 0 0 200 34))) _ _
  rw [e]
  refine k2 _ ?_
  refine ⟨h0, (htx.fr fun b k hb => by unfold rl_tx at hb; simp (disch := omega) only [cr_up_e, cr_up_n]), (hmk.fr fun b k hb => by unfold rl_mk at hb; simp (disch := omega) only [cr_up_e, cr_up_n]), (htb.fr h0 fun b k hb => by unfold rl_tb rl_tm at hb; simp (disch := omega) only [cr_up_e, cr_up_n]), (hro.fr fun b k hb => by unfold rl_ro at hb; simp (disch := omega) only [cr_up_e, cr_up_n]), (hse.fr fun b k hb => by unfold rl_se at hb; simp (disch := omega) only [cr_up_e, cr_up_n]), (hpu.fr fun b k hb => by unfold rl_pu at hb; simp (disch := omega) only [cr_up_e, cr_up_n]), (hlo.fr fun b k hb => by unfold rl_lo at hb; simp (disch := omega) only [cr_up_e, cr_up_n]), (hhi.fr fun b k hb => by unfold rl_hi at hb; simp (disch := omega) only [cr_up_e, cr_up_n]), (hst.fr fun b k hb => by unfold rl_st at hb; simp (disch := omega) only [cr_up_e, cr_up_n]), ?_, (hsp.fr fun b k hb => by unfold rl_sp at hb; simp (disch := omega) only [cr_up_e, cr_up_n]), (hck.fr fun b k hb => by unfold rl_ck at hb; simp (disch := omega) only [cr_up_e, cr_up_n])⟩
  have r : ∀ b, 170 ≤ b → b ≤ 174 → cr_up (cr_up I 169 0 0) 200 34 0 b = I b := fun b h1 h2 => funext fun k => by simp (disch := omega) only [cr_up_e, cr_up_n]
  have r9 : ∀ b, 221 ≤ b → b ≤ 225 → cr_up (cr_up I 169 0 0) 200 34 0 b = I b := fun b h1 h2 => funext fun k => by simp (disch := omega) only [cr_up_e, cr_up_n]
  have z1 : cr_up (cr_up I 169 0 0) 200 34 0 169 0 = 0 := by simp (disch := omega) only [cr_up_e, cr_up_n]
  have z2 : cr_up (cr_up I 169 0 0) 200 34 0 200 34 = 0 := cr_up_s
  obtain ⟨q1, q2, q3, q4, q5, q6, q7, q8⟩ := hjo
  unfold cr_Rjo cr_jok cr_jn
  rw [z1, z2, r 170 (by omega) (by omega), r 171 (by omega) (by omega), r 172 (by omega) (by omega), r 173 (by omega) (by omega), r 174 (by omega) (by omega), r9 221 (by omega) (by omega), r9 222 (by omega) (by omega), r9 223 (by omega) (by omega), r9 224 (by omega) (by omega), r9 225 (by omega) (by omega)]
  exact ⟨⟨by decide, by decide, fun j hj => absurd hj (Nat.not_lt_zero j)⟩, fun j hj => absurd hj (Nat.not_lt_zero j), rfl, q4, q5, q6, q7, q8⟩
theorem S_lose {x1 : Int32} : cr_S T_yX8_lose T_yX9_lose [.int x1] := by
  intro τ I K h hk
  obtain ⟨h0, htx, hmk, htb, hro, hse, hpu, hlo, hhi, hst, hjo, hsp, hck⟩ := id h
  refine ⟨τ, x1, fun r J => K (some (.int r)) J (cr_rf τ), rfl, h0, rfl, ?_, fun _ _ q => q⟩
  rintro _ rfl
  refine hk _ _ τ fun K2 k2 => ⟨τ, x1, fun r J => K2 (some (.int r)) J (cr_rf τ), rfl, h0, rfl, ?_, fun _ _ q => q⟩
  rintro _ rfl
  refine k2 _ ?_
  refine ⟨h0, (htx.fr fun b k hb => by unfold rl_tx at hb; simp (disch := omega) only [cr_up_e, cr_up_n]), (hmk.fr fun b k hb => by unfold rl_mk at hb; simp (disch := omega) only [cr_up_e, cr_up_n]), (htb.fr h0 fun b k hb => by unfold rl_tb rl_tm at hb; simp (disch := omega) only [cr_up_e, cr_up_n]), (hro.fr fun b k hb => by unfold rl_ro at hb; simp (disch := omega) only [cr_up_e, cr_up_n]), (hse.fr fun b k hb => by unfold rl_se at hb; simp (disch := omega) only [cr_up_e, cr_up_n]), (hpu.fr fun b k hb => by unfold rl_pu at hb; simp (disch := omega) only [cr_up_e, cr_up_n]), ?_, (hhi.fr fun b k hb => by unfold rl_hi at hb; simp (disch := omega) only [cr_up_e, cr_up_n]), (hst.fr fun b k hb => by unfold rl_st at hb; simp (disch := omega) only [cr_up_e, cr_up_n]), (hjo.fr fun b k hb => by unfold rl_jo at hb; simp (disch := omega) only [cr_up_e, cr_up_n]), (hsp.fr fun b k hb => by unfold rl_sp at hb; simp (disch := omega) only [cr_up_e, cr_up_n]), (hck.fr fun b k hb => by unfold rl_ck at hb; simp (disch := omega) only [cr_up_e, cr_up_n])⟩
  unfold cr_Rlo
  simp (disch := omega) only [cr_up_e, cr_up_n]
theorem cr_setlo : ∀ k, k < 5 → (if nI k = 0 then (1 : Int64) else 0).toInt = (cr_tab 1 k).toInt ∧ (if nI k = 0 then (99 : Int64) else (if nI k = (1 : Int32) then (40 : Int64) else (if nI k = (2 : Int32) then (4 : Int64) else (9 : Int64)))).toInt = (cr_tab 2 k).toInt := by decide +kernel
theorem cr_setlo' {x : Int32} (h : 0 ≤ x.toInt ∧ x.toInt ≤ 4) : (if x = 0 then (1 : Int64) else 0).toInt = (cr_tab 1 x.toNatClampNeg).toInt ∧ (if x = 0 then (99 : Int64) else (if x = (1 : Int32) then (40 : Int64) else (if x = (2 : Int32) then (4 : Int64) else (9 : Int64)))).toInt = (cr_tab 2 x.toNatClampNeg).toInt := by
  obtain ⟨e, hb⟩ := cr_ofI (B := 4) h.1 h.2
  have := cr_setlo x.toNatClampNeg (by omega)
  rw [← e] at this
  exact this
theorem w8_set {τ : Nat → Nat} {I : cr_I} {x1 x2 : Int32} {Q : Int32 → cr_I → Prop} (f1 : ¬ (0 ≤ x1.toInt ∧ x1.toInt ≤ 4) → Q (-3) I) (f2 : (0 ≤ x1.toInt ∧ x1.toInt ≤ 4) → ¬ ((cr_tab 1 x1.toNatClampNeg).toInt ≤ x2.toInt ∧ x2.toInt ≤ (cr_tab 2 x1.toNatClampNeg).toInt) → Q (-3) I) (ok : (0 ≤ x1.toInt ∧ x1.toInt ≤ 4) → ((cr_tab 1 x1.toNatClampNeg).toInt ≤ x2.toInt ∧ x2.toInt ≤ (cr_tab 2 x1.toNatClampNeg).toInt) → Q (I 130 x1.toNatClampNeg) (cr_up I 130 x1.toNatClampNeg x2)) : t_yX8_set τ x1 x2 I Q := by
  unfold t_yX8_set
  simp only [f_yX8_isNoMake, f_yX8_isNoPerson, f_yX8_isNoClock, f_yX8_isNoEvent, f_yX8_isNoLorry, f_yX8_isNoFollower, cr_nopl, cr_out0, zi_0, zi_1, zi_2, zi_3, zi_4, zi_5, zi_6, zi_8, zi_9, zi_12, zi_23, zi_31, zi_40, zi_60, zi_63, zi_99, zi_999, zi_2000, zi_m9, zl_0, zl_1, zl_2, zl_3, zl_4, zl_5, zl_6, zl_8, zl_9, zl_12, zl_23, zl_31, zl_40, zl_60, zl_63, zl_99, zl_999, zl_2000, zl_m9]
  repeat' (first | apply And.intro | intro _)
  all_goals (try subst_vars)
  all_goals (try simp only [cr_up_s])
  all_goals first | omega | exact f1 (by omega) | exact f2 (by omega) (by omega) | exact ok (by omega) (by omega)
theorem w9_set {τ : Nat → Nat} {I : cr_I} {x1 x2 : Int32} {Q : Int32 → cr_I → Prop} (f1 : ¬ (0 ≤ x1.toInt ∧ x1.toInt ≤ 4) → Q (-3) I) (f2 : (0 ≤ x1.toInt ∧ x1.toInt ≤ 4) → ¬ ((cr_tab 1 x1.toNatClampNeg).toInt ≤ x2.toInt ∧ x2.toInt ≤ (cr_tab 2 x1.toNatClampNeg).toInt) → Q (-3) I) (ok : (0 ≤ x1.toInt ∧ x1.toInt ≤ 4) → ((cr_tab 1 x1.toNatClampNeg).toInt ≤ x2.toInt ∧ x2.toInt ≤ (cr_tab 2 x1.toNatClampNeg).toInt) → Q (I 214 x1.toNatClampNeg) (cr_up I 214 x1.toNatClampNeg x2)) : t_yX9_set τ x1 x2 I Q := by
  unfold t_yX9_set
  simp only [cr_in0, Int32.toInt_toInt64, Classical.not_not, zl_0, zl_4]
  refine ⟨fun q => f1 q, fun q => ?_⟩
  obtain ⟨e1, e2⟩ := cr_setlo' q
  simp only [e1, e2]
  refine ⟨fun q2 => ⟨⟨q.1, by omega⟩, fun v1 hv => ⟨⟨q.1, by omega⟩, fun J1 hJ => ?_⟩⟩, fun q2 => f2 q q2⟩
  subst hv
  subst hJ
  exact ok q q2
theorem S_set {x1 x2 : Int32} : cr_S T_yX8_set T_yX9_set [.int x1, .int x2] := by
  intro τ I K h hk
  obtain ⟨h0, htx, hmk, htb, hro, hse, hpu, hlo, hhi, hst, hjo, hsp, hck⟩ := id h
  have fin : ∀ (r : Int32) (J : cr_I), (∀ Q2 : Int32 → cr_I → Prop, (∀ I2, cr_Rel τ I2 → Q2 r I2) → t_yX9_set τ x1 x2 J Q2) → K (some (.int r)) J (cr_rf τ) := fun r J h9 => hk r J τ fun K2 k2 => ⟨τ, x1, x2, fun r' J' => K2 (some (.int r')) J' (cr_rf τ), rfl, h0, rfl, h9 _ k2, fun _ _ q => q⟩
  refine ⟨τ, x1, x2, fun r J => K (some (.int r)) J (cr_rf τ), rfl, h0, rfl, ?_, fun _ _ q => q⟩
  refine w8_set (fun c1 => ?_) (fun c1 c2 => ?_) (fun c1 c2 => ?_)
  · refine fin _ _ fun Q2 q2 => w9_set (fun d1 => by first | (exfalso; omega) | exact q2 _ h) (fun d1 d2 => by first | (exfalso; omega) | exact q2 _ h) (fun d1 d2 => by first | (exfalso; omega) | exact q2 _ h)
  · refine fin _ _ fun Q2 q2 => w9_set (fun d1 => by first | (exfalso; omega) | exact q2 _ h) (fun d1 d2 => by first | (exfalso; omega) | exact q2 _ h) (fun d1 d2 => by first | (exfalso; omega) | exact q2 _ h)
  · obtain ⟨J8, e8⟩ : ∃ J : cr_I, J = cr_up I 130 x1.toNatClampNeg x2 := ⟨_, rfl⟩
    rw [← e8]
    have m1 : J8 214 x1.toNatClampNeg = I 130 x1.toNatClampNeg := by rw [e8]; simp (disch := omega) only [cr_up_e, cr_up_n]; exact congrFun hse.1 _
    refine fin _ _ fun Q2 q2 => w9_set (fun d1 => by exfalso; omega) (fun d1 d2 => by exfalso; omega) (fun d1 d2 => ?_)
    rw [m1]
    refine q2 _ ?_
    rw [e8]
    refine ⟨h0, (htx.fr fun b k hb => by unfold rl_tx at hb; simp (disch := omega) only [cr_up_e, cr_up_n]), (hmk.fr fun b k hb => by unfold rl_mk at hb; simp (disch := omega) only [cr_up_e, cr_up_n]), (htb.fr h0 fun b k hb => by unfold rl_tb rl_tm at hb; simp (disch := omega) only [cr_up_e, cr_up_n]), (hro.fr fun b k hb => by unfold rl_ro at hb; simp (disch := omega) only [cr_up_e, cr_up_n]), ?_, (hpu.fr fun b k hb => by unfold rl_pu at hb; simp (disch := omega) only [cr_up_e, cr_up_n]), (hlo.fr fun b k hb => by unfold rl_lo at hb; simp (disch := omega) only [cr_up_e, cr_up_n]), (hhi.fr fun b k hb => by unfold rl_hi at hb; simp (disch := omega) only [cr_up_e, cr_up_n]), (hst.fr fun b k hb => by unfold rl_st at hb; simp (disch := omega) only [cr_up_e, cr_up_n]), (hjo.fr fun b k hb => by unfold rl_jo at hb; simp (disch := omega) only [cr_up_e, cr_up_n]), (hsp.fr fun b k hb => by unfold rl_sp at hb; simp (disch := omega) only [cr_up_e, cr_up_n]), (hck.fr fun b k hb => by unfold rl_ck at hb; simp (disch := omega) only [cr_up_e, cr_up_n])⟩
    have hm : x1.toNatClampNeg ≤ 4 := cr_n4 c1
    have tb : ∀ j, j < 5 → cr_tab 1 j = [1, 0, 0, 0, 0].getD j 0 ∧ cr_tab 2 j = [99, 40, 4, 9, 9].getD j 0 := by decide +kernel
    obtain ⟨t1, t2⟩ := tb x1.toNatClampNeg (by omega)
    rw [t1, t2] at c2
    generalize x1.toNatClampNeg = m at hm c2
    unfold cr_Rse at hse ⊢
    have r : ∀ j, cr_up (cr_up I 130 m x2) 214 m x2 130 j = if j = m then x2 else I 130 j := fun j => by
      by_cases e : j = m
      · rw [if_pos e]; simp (disch := omega) only [cr_up_e, cr_up_n]
      · rw [if_neg e]; simp (disch := omega) only [cr_up_e, cr_up_n]
    refine ⟨funext fun k => ?_, ?_⟩
    · by_cases e : k = m
      · simp (disch := omega) only [cr_up_e, cr_up_n]
      · simp (disch := omega) only [cr_up_e, cr_up_n]
        exact congrFun hse.1 k
    · simp only [r]
      obtain ⟨-, s0, s1, s2, s3, s4⟩ := hse
      rcases (show m = 0 ∨ m = 1 ∨ m = 2 ∨ m = 3 ∨ m = 4 by omega) with rfl | rfl | rfl | rfl | rfl
      · exact ⟨c2, s1, s2, s3, s4⟩
      · exact ⟨s0, c2, s2, s3, s4⟩
      · exact ⟨s0, s1, c2, s3, s4⟩
      · exact ⟨s0, s1, s2, c2, s4⟩
      · exact ⟨s0, s1, s2, s3, c2⟩
theorem w8_push {τ : Nat → Nat} {I : cr_I} {x1 x2 : Int32} {Q : Int32 → cr_I → Prop} (a1 : 0 ≤ (I 27 5).toInt ∧ (I 27 5).toInt ≤ 8) (f1 : ¬ ((0 ≤ x1.toInt ∧ x1.toInt ≤ 31) ∧ (-9 ≤ x2.toInt ∧ x2.toInt ≤ 5)) → Q (-3) I) (f2 : ((0 ≤ x1.toInt ∧ x1.toInt ≤ 31) ∧ (-9 ≤ x2.toInt ∧ x2.toInt ≤ 5)) → ¬ ((I 27 5).toInt < 8) → Q (-5) I) (ok : ((0 ≤ x1.toInt ∧ x1.toInt ≤ 31) ∧ (-9 ≤ x2.toInt ∧ x2.toInt ≤ 5)) → ((I 27 5).toInt < 8) → Q (I 27 5 + 1) (cr_up (cr_up (cr_up I 131 (I 27 5).toNatClampNeg x1) 132 (I 27 5).toNatClampNeg x2) 27 5 (I 27 5 + 1))) : t_yX8_push τ x1 x2 I Q := by
  unfold t_yX8_push
  simp only [f_yX8_isNoMake, f_yX8_isNoPerson, f_yX8_isNoClock, f_yX8_isNoEvent, f_yX8_isNoLorry, f_yX8_isNoFollower, cr_nopl, cr_out0, cr_lt, zi_0, zi_1, zi_2, zi_3, zi_4, zi_5, zi_6, zi_8, zi_9, zi_12, zi_23, zi_31, zi_40, zi_60, zi_63, zi_99, zi_999, zi_2000, zi_m9, zl_0, zl_1, zl_2, zl_3, zl_4, zl_5, zl_6, zl_8, zl_9, zl_12, zl_23, zl_31, zl_40, zl_60, zl_63, zl_99, zl_999, zl_2000, zl_m9]
  have u0 : ∀ (f : cr_I) (k : Nat) (v : Int32), cr_up f 131 k v 27 5 = f 27 5 := fun _ _ _ => cr_up_b (by decide)
  have u1 : ∀ (f : cr_I) (k : Nat) (v : Int32), cr_up f 132 k v 27 5 = f 27 5 := fun _ _ _ => cr_up_b (by decide)
  repeat' (first | apply And.intro | intro _)
  all_goals (try subst_vars)
  all_goals (try simp only [u0, u1, cr_up_s])
  all_goals first | omega | exact f1 (by omega) | exact f2 (by omega) (by omega) | exact ok (by omega) (by omega)
theorem w9_push {τ : Nat → Nat} {I : cr_I} {x1 x2 : Int32} {Q : Int32 → cr_I → Prop} (a1 : 0 ≤ (I 200 18).toInt ∧ (I 200 18).toInt ≤ 8) (f1 : ¬ ((0 ≤ x1.toInt ∧ x1.toInt ≤ 31) ∧ (-9 ≤ x2.toInt ∧ x2.toInt ≤ 5)) → Q (-3) I) (f2 : ((0 ≤ x1.toInt ∧ x1.toInt ≤ 31) ∧ (-9 ≤ x2.toInt ∧ x2.toInt ≤ 5)) → ¬ ((I 200 18).toInt < 8) → Q (-5) I) (ok : ((0 ≤ x1.toInt ∧ x1.toInt ≤ 31) ∧ (-9 ≤ x2.toInt ∧ x2.toInt ≤ 5)) → ((I 200 18).toInt < 8) → Q (I 200 18 + 1) (cr_up (cr_up (cr_up I 215 (I 200 18).toNatClampNeg x1) 216 (I 200 18).toNatClampNeg x2) 200 18 (I 200 18 + 1))) : t_yX9_push τ x1 x2 I Q := by
  unfold t_yX9_push
  simp only [f_yX9_isMake, f_yX9_isSix, f_yX9_isLorry, f_yX9_isEvent, cr_in0, Int32.toInt_toInt64, Classical.not_not, @cr_eq (I 200 18) 8, zi_0, zi_1, zi_2, zi_3, zi_4, zi_5, zi_6, zi_8, zi_9, zi_12, zi_23, zi_31, zi_40, zi_60, zi_63, zi_99, zi_999, zi_2000, zi_m9, zl_0, zl_1, zl_2, zl_3, zl_4, zl_5, zl_6, zl_8, zl_9, zl_12, zl_23, zl_31, zl_40, zl_60, zl_63, zl_99, zl_999, zl_2000, zl_m9]
  have u0 : ∀ (f : cr_I) (k : Nat) (v : Int32), cr_up f 215 k v 200 18 = f 200 18 := fun _ _ _ => cr_up_b (by decide)
  have u1 : ∀ (f : cr_I) (k : Nat) (v : Int32), cr_up f 216 k v 200 18 = f 200 18 := fun _ _ _ => cr_up_b (by decide)
  repeat' (first | apply And.intro | intro _)
  all_goals (try subst_vars)
  all_goals (try simp only [u0, u1, cr_up_s])
  all_goals first | omega | exact f1 (by omega) | exact f2 (by omega) (by omega) | exact ok (by omega) (by omega)
theorem S_push {x1 x2 : Int32} : cr_S T_yX8_push T_yX9_push [.int x1, .int x2] := by
  intro τ I K h hk
  obtain ⟨h0, htx, hmk, htb, hro, hse, hpu, hlo, hhi, hst, hjo, hsp, hck⟩ := id h
  have fin : ∀ (r : Int32) (J : cr_I), (∀ Q2 : Int32 → cr_I → Prop, (∀ I2, cr_Rel τ I2 → Q2 r I2) → t_yX9_push τ x1 x2 J Q2) → K (some (.int r)) J (cr_rf τ) := fun r J h9 => hk r J τ fun K2 k2 => ⟨τ, x1, x2, fun r' J' => K2 (some (.int r')) J' (cr_rf τ), rfl, h0, rfl, h9 _ k2, fun _ _ q => q⟩
  refine ⟨τ, x1, x2, fun r J => K (some (.int r)) J (cr_rf τ), rfl, h0, rfl, ?_, fun _ _ q => q⟩
  have pe := hpu.2.1
  have pi : (I 200 18).toInt = (I 27 5).toInt := by rw [pe]
  have a1 := hpu.1
  refine w8_push a1 (fun c1 => ?_) (fun c1 c2 => ?_) (fun c1 c2 => ?_)
  · refine fin _ _ fun Q2 q2 => w9_push (by omega) (fun d1 => by first | (exfalso; omega) | exact q2 _ h) (fun d1 d2 => by first | (exfalso; omega) | exact q2 _ h) (fun d1 d2 => by first | (exfalso; omega) | exact q2 _ h)
  · refine fin _ _ fun Q2 q2 => w9_push (by omega) (fun d1 => by first | (exfalso; omega) | exact q2 _ h) (fun d1 d2 => by first | (exfalso; omega) | exact q2 _ h) (fun d1 d2 => by first | (exfalso; omega) | exact q2 _ h)
  · obtain ⟨J8, e8⟩ : ∃ J : cr_I, J = cr_up (cr_up (cr_up I 131 (I 27 5).toNatClampNeg x1) 132 (I 27 5).toNatClampNeg x2) 27 5 (I 27 5 + 1) := ⟨_, rfl⟩
    rw [← e8]
    have m1 : J8 200 18 = I 27 5 := by rw [e8]; simp (disch := omega) only [cr_up_e, cr_up_n]; exact pe
    have m2 : (J8 200 18).toInt = (I 27 5).toInt := by rw [e8]; simp (disch := omega) only [cr_up_e, cr_up_n]; exact pi
    refine fin _ _ fun Q2 q2 => w9_push (by omega) (fun d1 => by exfalso; omega) (fun d1 d2 => by exfalso; omega) (fun d1 d2 => ?_)
    rw [m1]
    refine q2 _ ?_
    rw [e8]
    refine ⟨h0, (htx.fr fun b k hb => by unfold rl_tx at hb; simp (disch := omega) only [cr_up_e, cr_up_n]), (hmk.fr fun b k hb => by unfold rl_mk at hb; simp (disch := omega) only [cr_up_e, cr_up_n]), (htb.fr h0 fun b k hb => by unfold rl_tb rl_tm at hb; simp (disch := omega) only [cr_up_e, cr_up_n]), (hro.fr fun b k hb => by unfold rl_ro at hb; simp (disch := omega) only [cr_up_e, cr_up_n]), (hse.fr fun b k hb => by unfold rl_se at hb; simp (disch := omega) only [cr_up_e, cr_up_n]), ?_, (hlo.fr fun b k hb => by unfold rl_lo at hb; simp (disch := omega) only [cr_up_e, cr_up_n]), (hhi.fr fun b k hb => by unfold rl_hi at hb; simp (disch := omega) only [cr_up_e, cr_up_n]), (hst.fr fun b k hb => by unfold rl_st at hb; simp (disch := omega) only [cr_up_e, cr_up_n]), (hjo.fr fun b k hb => by unfold rl_jo at hb; simp (disch := omega) only [cr_up_e, cr_up_n]), (hsp.fr fun b k hb => by unfold rl_sp at hb; simp (disch := omega) only [cr_up_e, cr_up_n]), (hck.fr fun b k hb => by unfold rl_ck at hb; simp (disch := omega) only [cr_up_e, cr_up_n])⟩
    have hp : (I 27 5).toNatClampNeg ≤ 7 := cr_n4 (by omega)
    have hs : (I 27 5 + 1).toInt = (I 27 5).toInt + 1 := cr_add1 (by omega)
    generalize (I 27 5).toNatClampNeg = p at hp
    unfold cr_Rpu
    refine ⟨?_, ?_, funext fun k => ?_, funext fun k => ?_, fun k => ?_⟩
    · simp (disch := omega) only [cr_up_e, cr_up_n]
      omega
    · simp (disch := omega) only [cr_up_e, cr_up_n]
    · by_cases e : k = p
      · simp (disch := omega) only [cr_up_e, cr_up_n]
      · simp (disch := omega) only [cr_up_e, cr_up_n]
        exact congrFun hpu.2.2.1 k
    · by_cases e : k = p
      · simp (disch := omega) only [cr_up_e, cr_up_n]
      · simp (disch := omega) only [cr_up_e, cr_up_n]
        exact congrFun hpu.2.2.2.1 k
    · by_cases e : k = p
      · simp (disch := omega) only [cr_up_e, cr_up_n]
        exact c1.2
      · simp (disch := omega) only [cr_up_e, cr_up_n]
        exact hpu.2.2.2.2 k
theorem w8_hill {τ : Nat → Nat} {I : cr_I} {x1 x2 x3 x4 : Int32} {Q : Int32 → cr_I → Prop} (a1 : 0 ≤ (I 27 8).toInt ∧ (I 27 8).toInt ≤ 2) (f1 : ¬ (((0 ≤ x1.toInt ∧ x1.toInt ≤ 2000) ∧ (x1.toInt ≤ x2.toInt ∧ x2.toInt ≤ 2000)) ∧ (0 ≤ x3.toInt ∧ x3.toInt ≤ 40) ∧ (0 ≤ x4.toInt ∧ x4.toInt ≤ 40)) → Q (-3) I) (f2 : (((0 ≤ x1.toInt ∧ x1.toInt ≤ 2000) ∧ (x1.toInt ≤ x2.toInt ∧ x2.toInt ≤ 2000)) ∧ (0 ≤ x3.toInt ∧ x3.toInt ≤ 40) ∧ (0 ≤ x4.toInt ∧ x4.toInt ≤ 40)) → ¬ ((I 27 8).toInt < 2) → Q (-5) I) (ok : (((0 ≤ x1.toInt ∧ x1.toInt ≤ 2000) ∧ (x1.toInt ≤ x2.toInt ∧ x2.toInt ≤ 2000)) ∧ (0 ≤ x3.toInt ∧ x3.toInt ≤ 40) ∧ (0 ≤ x4.toInt ∧ x4.toInt ≤ 40)) → ((I 27 8).toInt < 2) → Q (I 27 8 + 1) (cr_up (cr_up (cr_up (cr_up (cr_up I 133 (I 27 8).toNatClampNeg x1) 134 (I 27 8).toNatClampNeg x2) 135 (I 27 8).toNatClampNeg x3) 136 (I 27 8).toNatClampNeg x4) 27 8 (I 27 8 + 1))) : t_yX8_hill τ x1 x2 x3 x4 I Q := by
  unfold t_yX8_hill
  simp only [f_yX8_isNoMake, f_yX8_isNoPerson, f_yX8_isNoClock, f_yX8_isNoEvent, f_yX8_isNoLorry, f_yX8_isNoFollower, cr_nopl, cr_out0, cr_lt, zi_0, zi_1, zi_2, zi_3, zi_4, zi_5, zi_6, zi_8, zi_9, zi_12, zi_23, zi_31, zi_40, zi_60, zi_63, zi_99, zi_999, zi_2000, zi_m9, zl_0, zl_1, zl_2, zl_3, zl_4, zl_5, zl_6, zl_8, zl_9, zl_12, zl_23, zl_31, zl_40, zl_60, zl_63, zl_99, zl_999, zl_2000, zl_m9]
  have u0 : ∀ (f : cr_I) (k : Nat) (v : Int32), cr_up f 133 k v 27 8 = f 27 8 := fun _ _ _ => cr_up_b (by decide)
  have u1 : ∀ (f : cr_I) (k : Nat) (v : Int32), cr_up f 134 k v 27 8 = f 27 8 := fun _ _ _ => cr_up_b (by decide)
  have u2 : ∀ (f : cr_I) (k : Nat) (v : Int32), cr_up f 135 k v 27 8 = f 27 8 := fun _ _ _ => cr_up_b (by decide)
  have u3 : ∀ (f : cr_I) (k : Nat) (v : Int32), cr_up f 136 k v 27 8 = f 27 8 := fun _ _ _ => cr_up_b (by decide)
  repeat' (first | apply And.intro | intro _)
  all_goals (try subst_vars)
  all_goals (try simp only [u0, u1, u2, u3, cr_up_s])
  all_goals first | omega | exact f1 (by omega) | exact f2 (by omega) (by omega) | exact ok (by omega) (by omega)
theorem w9_hill {τ : Nat → Nat} {I : cr_I} {x1 x2 x3 x4 : Int32} {Q : Int32 → cr_I → Prop} (a1 : 0 ≤ (I 200 24).toInt ∧ (I 200 24).toInt ≤ 2) (f1 : ¬ (((0 ≤ x1.toInt ∧ x1.toInt ≤ 2000) ∧ (x1.toInt ≤ x2.toInt ∧ x2.toInt ≤ 2000)) ∧ (0 ≤ x3.toInt ∧ x3.toInt ≤ 40) ∧ (0 ≤ x4.toInt ∧ x4.toInt ≤ 40)) → Q (-3) I) (f2 : (((0 ≤ x1.toInt ∧ x1.toInt ≤ 2000) ∧ (x1.toInt ≤ x2.toInt ∧ x2.toInt ≤ 2000)) ∧ (0 ≤ x3.toInt ∧ x3.toInt ≤ 40) ∧ (0 ≤ x4.toInt ∧ x4.toInt ≤ 40)) → ¬ ((I 200 24).toInt < 2) → Q (-5) I) (ok : (((0 ≤ x1.toInt ∧ x1.toInt ≤ 2000) ∧ (x1.toInt ≤ x2.toInt ∧ x2.toInt ≤ 2000)) ∧ (0 ≤ x3.toInt ∧ x3.toInt ≤ 40) ∧ (0 ≤ x4.toInt ∧ x4.toInt ≤ 40)) → ((I 200 24).toInt < 2) → Q (I 200 24 + 1) (cr_up (cr_up (cr_up (cr_up (cr_up I 217 (I 200 24).toNatClampNeg x1) 218 (I 200 24).toNatClampNeg x2) 219 (I 200 24).toNatClampNeg x3) 220 (I 200 24).toNatClampNeg x4) 200 24 (I 200 24 + 1))) : t_yX9_hill τ x1 x2 x3 x4 I Q := by
  unfold t_yX9_hill
  simp only [f_yX9_isMake, f_yX9_isSix, f_yX9_isLorry, f_yX9_isEvent, cr_in0, Int32.toInt_toInt64, Classical.not_not, @cr_eq (I 200 24) 2, zi_0, zi_1, zi_2, zi_3, zi_4, zi_5, zi_6, zi_8, zi_9, zi_12, zi_23, zi_31, zi_40, zi_60, zi_63, zi_99, zi_999, zi_2000, zi_m9, zl_0, zl_1, zl_2, zl_3, zl_4, zl_5, zl_6, zl_8, zl_9, zl_12, zl_23, zl_31, zl_40, zl_60, zl_63, zl_99, zl_999, zl_2000, zl_m9]
  have u0 : ∀ (f : cr_I) (k : Nat) (v : Int32), cr_up f 217 k v 200 24 = f 200 24 := fun _ _ _ => cr_up_b (by decide)
  have u1 : ∀ (f : cr_I) (k : Nat) (v : Int32), cr_up f 218 k v 200 24 = f 200 24 := fun _ _ _ => cr_up_b (by decide)
  have u2 : ∀ (f : cr_I) (k : Nat) (v : Int32), cr_up f 219 k v 200 24 = f 200 24 := fun _ _ _ => cr_up_b (by decide)
  have u3 : ∀ (f : cr_I) (k : Nat) (v : Int32), cr_up f 220 k v 200 24 = f 200 24 := fun _ _ _ => cr_up_b (by decide)
  repeat' (first | apply And.intro | intro _)
  all_goals (try subst_vars)
  all_goals (try simp only [u0, u1, u2, u3, cr_up_s])
  all_goals first | omega | exact f1 (by omega) | exact f2 (by omega) (by omega) | exact ok (by omega) (by omega)
theorem S_hill {x1 x2 x3 x4 : Int32} : cr_S T_yX8_hill T_yX9_hill [.int x1, .int x2, .int x3, .int x4] := by
  intro τ I K h hk
  obtain ⟨h0, htx, hmk, htb, hro, hse, hpu, hlo, hhi, hst, hjo, hsp, hck⟩ := id h
  have fin : ∀ (r : Int32) (J : cr_I), (∀ Q2 : Int32 → cr_I → Prop, (∀ I2, cr_Rel τ I2 → Q2 r I2) → t_yX9_hill τ x1 x2 x3 x4 J Q2) → K (some (.int r)) J (cr_rf τ) := fun r J h9 => hk r J τ fun K2 k2 => ⟨τ, x1, x2, x3, x4, fun r' J' => K2 (some (.int r')) J' (cr_rf τ), rfl, h0, rfl, h9 _ k2, fun _ _ q => q⟩
  refine ⟨τ, x1, x2, x3, x4, fun r J => K (some (.int r)) J (cr_rf τ), rfl, h0, rfl, ?_, fun _ _ q => q⟩
  have pe := hhi.2.1
  have pi : (I 200 24).toInt = (I 27 8).toInt := by rw [pe]
  have a1 := hhi.1
  refine w8_hill a1 (fun c1 => ?_) (fun c1 c2 => ?_) (fun c1 c2 => ?_)
  · refine fin _ _ fun Q2 q2 => w9_hill (by omega) (fun d1 => by first | (exfalso; omega) | exact q2 _ h) (fun d1 d2 => by first | (exfalso; omega) | exact q2 _ h) (fun d1 d2 => by first | (exfalso; omega) | exact q2 _ h)
  · refine fin _ _ fun Q2 q2 => w9_hill (by omega) (fun d1 => by first | (exfalso; omega) | exact q2 _ h) (fun d1 d2 => by first | (exfalso; omega) | exact q2 _ h) (fun d1 d2 => by first | (exfalso; omega) | exact q2 _ h)
  · obtain ⟨J8, e8⟩ : ∃ J : cr_I, J = cr_up (cr_up (cr_up (cr_up (cr_up I 133 (I 27 8).toNatClampNeg x1) 134 (I 27 8).toNatClampNeg x2) 135 (I 27 8).toNatClampNeg x3) 136 (I 27 8).toNatClampNeg x4) 27 8 (I 27 8 + 1) := ⟨_, rfl⟩
    rw [← e8]
    have m1 : J8 200 24 = I 27 8 := by rw [e8]; simp (disch := omega) only [cr_up_e, cr_up_n]; exact pe
    have m2 : (J8 200 24).toInt = (I 27 8).toInt := by rw [e8]; simp (disch := omega) only [cr_up_e, cr_up_n]; exact pi
    refine fin _ _ fun Q2 q2 => w9_hill (by omega) (fun d1 => by exfalso; omega) (fun d1 d2 => by exfalso; omega) (fun d1 d2 => ?_)
    rw [m1]
    refine q2 _ ?_
    rw [e8]
    refine ⟨h0, (htx.fr fun b k hb => by unfold rl_tx at hb; simp (disch := omega) only [cr_up_e, cr_up_n]), (hmk.fr fun b k hb => by unfold rl_mk at hb; simp (disch := omega) only [cr_up_e, cr_up_n]), (htb.fr h0 fun b k hb => by unfold rl_tb rl_tm at hb; simp (disch := omega) only [cr_up_e, cr_up_n]), (hro.fr fun b k hb => by unfold rl_ro at hb; simp (disch := omega) only [cr_up_e, cr_up_n]), (hse.fr fun b k hb => by unfold rl_se at hb; simp (disch := omega) only [cr_up_e, cr_up_n]), (hpu.fr fun b k hb => by unfold rl_pu at hb; simp (disch := omega) only [cr_up_e, cr_up_n]), (hlo.fr fun b k hb => by unfold rl_lo at hb; simp (disch := omega) only [cr_up_e, cr_up_n]), ?_, (hst.fr fun b k hb => by unfold rl_st at hb; simp (disch := omega) only [cr_up_e, cr_up_n]), (hjo.fr fun b k hb => by unfold rl_jo at hb; simp (disch := omega) only [cr_up_e, cr_up_n]), (hsp.fr fun b k hb => by unfold rl_sp at hb; simp (disch := omega) only [cr_up_e, cr_up_n]), (hck.fr fun b k hb => by unfold rl_ck at hb; simp (disch := omega) only [cr_up_e, cr_up_n])⟩
    have hp : (I 27 8).toNatClampNeg ≤ 1 := cr_n4 (by omega)
    have hs : (I 27 8 + 1).toInt = (I 27 8).toInt + 1 := cr_add1 (by omega)
    generalize (I 27 8).toNatClampNeg = p at hp
    obtain ⟨-, -, i3, i4, i5, i6, i7⟩ := hhi
    unfold cr_Rhi
    refine ⟨?_, ?_, funext fun k => ?_, funext fun k => ?_, funext fun k => ?_, funext fun k => ?_, fun k => ?_⟩
    · simp (disch := omega) only [cr_up_e, cr_up_n]
      omega
    · simp (disch := omega) only [cr_up_e, cr_up_n]
    · by_cases e : k = p
      · simp (disch := omega) only [cr_up_e, cr_up_n]
      · simp (disch := omega) only [cr_up_e, cr_up_n]
        exact congrFun i3 k
    · by_cases e : k = p
      · simp (disch := omega) only [cr_up_e, cr_up_n]
      · simp (disch := omega) only [cr_up_e, cr_up_n]
        exact congrFun i4 k
    · by_cases e : k = p
      · simp (disch := omega) only [cr_up_e, cr_up_n]
      · simp (disch := omega) only [cr_up_e, cr_up_n]
        exact congrFun i5 k
    · by_cases e : k = p
      · simp (disch := omega) only [cr_up_e, cr_up_n]
      · simp (disch := omega) only [cr_up_e, cr_up_n]
        exact congrFun i6 k
    · by_cases e : k = p
      · simp (disch := omega) only [cr_up_e, cr_up_n]
        exact c1.2.2
      · simp (disch := omega) only [cr_up_e, cr_up_n]
        exact i7 k
theorem w8_stranger {τ : Nat → Nat} {I : cr_I} {x1 x2 x3 x4 : Int32} {Q : Int32 → cr_I → Prop} (a1 : (I 27 1 - 1).toInt = (I 27 1).toInt - 1) (f1 : ¬ (1 ≤ x1.toInt ∧ x1.toInt < (I 27 1).toInt) → Q (-2) I) (f2 : (1 ≤ x1.toInt ∧ x1.toInt < (I 27 1).toInt) → ¬ ((0 ≤ x2.toInt ∧ x2.toInt ≤ 31) ∧ (x2.toInt ≤ x3.toInt ∧ x3.toInt ≤ 31) ∧ (0 ≤ x4.toInt ∧ x4.toInt ≤ 40)) → Q (-3) I) (ok : (1 ≤ x1.toInt ∧ x1.toInt < (I 27 1).toInt) → ((0 ≤ x2.toInt ∧ x2.toInt ≤ 31) ∧ (x2.toInt ≤ x3.toInt ∧ x3.toInt ≤ 31) ∧ (0 ≤ x4.toInt ∧ x4.toInt ≤ 40)) → Q (1) (cr_up (cr_up (cr_up (cr_up I 27 13 x1) 27 14 x2) 27 15 x3) 27 16 x4)) : t_yX8_stranger τ x1 x2 x3 x4 I Q := by
  unfold t_yX8_stranger
  simp only [f_yX8_isNoMake, f_yX8_isNoPerson, f_yX8_isNoClock, f_yX8_isNoEvent, f_yX8_isNoLorry, f_yX8_isNoFollower, cr_nopl, cr_out0, a1, zi_0, zi_1, zi_2, zi_3, zi_4, zi_5, zi_6, zi_8, zi_9, zi_12, zi_23, zi_31, zi_40, zi_60, zi_63, zi_99, zi_999, zi_2000, zi_m9, zl_0, zl_1, zl_2, zl_3, zl_4, zl_5, zl_6, zl_8, zl_9, zl_12, zl_23, zl_31, zl_40, zl_60, zl_63, zl_99, zl_999, zl_2000, zl_m9]
  repeat' (first | apply And.intro | intro _)
  all_goals (try subst_vars)
  all_goals (try simp only [cr_up_s])
  all_goals first | omega | exact f1 (by omega) | exact f2 (by omega) (by omega) | exact ok (by omega) (by omega)
theorem w9_stranger {τ : Nat → Nat} {I : cr_I} {x1 x2 x3 x4 : Int32} {Q : Int32 → cr_I → Prop} (a1 : (I 200 13 - 1).toInt = (I 200 13).toInt - 1) (f1 : ¬ (1 ≤ x1.toInt ∧ x1.toInt < (I 200 13).toInt) → Q (-2) I) (f2 : (1 ≤ x1.toInt ∧ x1.toInt < (I 200 13).toInt) → ¬ ((0 ≤ x2.toInt ∧ x2.toInt ≤ 31) ∧ (x2.toInt ≤ x3.toInt ∧ x3.toInt ≤ 31) ∧ (0 ≤ x4.toInt ∧ x4.toInt ≤ 40)) → Q (-3) I) (ok : (1 ≤ x1.toInt ∧ x1.toInt < (I 200 13).toInt) → ((0 ≤ x2.toInt ∧ x2.toInt ≤ 31) ∧ (x2.toInt ≤ x3.toInt ∧ x3.toInt ≤ 31) ∧ (0 ≤ x4.toInt ∧ x4.toInt ≤ 40)) → Q (1) (cr_up (cr_up (cr_up (cr_up I 200 25 x1) 200 26 x2) 200 27 x3) 200 28 x4)) : t_yX9_stranger τ x1 x2 x3 x4 I Q := by
  unfold t_yX9_stranger
  simp only [f_yX9_isMake, f_yX9_isSix, f_yX9_isLorry, f_yX9_isEvent, cr_in0, Int32.toInt_toInt64, Classical.not_not, a1, @cr_eq x1 0, zi_0, zi_1, zi_2, zi_3, zi_4, zi_5, zi_6, zi_8, zi_9, zi_12, zi_23, zi_31, zi_40, zi_60, zi_63, zi_99, zi_999, zi_2000, zi_m9, zl_0, zl_1, zl_2, zl_3, zl_4, zl_5, zl_6, zl_8, zl_9, zl_12, zl_23, zl_31, zl_40, zl_60, zl_63, zl_99, zl_999, zl_2000, zl_m9]
  repeat' (first | apply And.intro | intro _)
  all_goals (try subst_vars)
  all_goals (try simp only [cr_up_s])
  all_goals first | omega | exact f1 (by omega) | exact f2 (by omega) (by omega) | exact ok (by omega) (by omega)
theorem S_stranger {x1 x2 x3 x4 : Int32} : cr_S T_yX8_stranger T_yX9_stranger [.int x1, .int x2, .int x3, .int x4] := by
  intro τ I K h hk
  obtain ⟨h0, htx, hmk, htb, hro, hse, hpu, hlo, hhi, hst, hjo, hsp, hck⟩ := id h
  have fin : ∀ (r : Int32) (J : cr_I), (∀ Q2 : Int32 → cr_I → Prop, (∀ I2, cr_Rel τ I2 → Q2 r I2) → t_yX9_stranger τ x1 x2 x3 x4 J Q2) → K (some (.int r)) J (cr_rf τ) := fun r J h9 => hk r J τ fun K2 k2 => ⟨τ, x1, x2, x3, x4, fun r' J' => K2 (some (.int r')) J' (cr_rf τ), rfl, h0, rfl, h9 _ k2, fun _ _ q => q⟩
  refine ⟨τ, x1, x2, x3, x4, fun r J => K (some (.int r)) J (cr_rf τ), rfl, h0, rfl, ?_, fun _ _ q => q⟩
  have pe := hro.2.1
  have pi : (I 200 13).toInt = (I 27 1).toInt := by rw [pe]
  have a0 : 1 ≤ (I 27 1).toInt ∧ (I 27 1).toInt ≤ 6 := hro.1
  have a1 : (I 27 1 - 1).toInt = (I 27 1).toInt - 1 := cr_sub1 (by omega)
  have a2 : (I 200 13 - 1).toInt = (I 200 13).toInt - 1 := cr_sub1 (by omega)
  refine w8_stranger a1 (fun c1 => ?_) (fun c1 c2 => ?_) (fun c1 c2 => ?_)
  · refine fin _ _ fun Q2 q2 => w9_stranger a2 (fun d1 => by first | (exfalso; omega) | exact q2 _ h) (fun d1 d2 => by first | (exfalso; omega) | exact q2 _ h) (fun d1 d2 => by first | (exfalso; omega) | exact q2 _ h)
  · refine fin _ _ fun Q2 q2 => w9_stranger a2 (fun d1 => by first | (exfalso; omega) | exact q2 _ h) (fun d1 d2 => by first | (exfalso; omega) | exact q2 _ h) (fun d1 d2 => by first | (exfalso; omega) | exact q2 _ h)
  · obtain ⟨J8, e8⟩ : ∃ J : cr_I, J = cr_up (cr_up (cr_up (cr_up I 27 13 x1) 27 14 x2) 27 15 x3) 27 16 x4 := ⟨_, rfl⟩
    rw [← e8]
    have m1 : (J8 200 13).toInt = (I 27 1).toInt := by rw [e8]; simp (disch := omega) only [cr_up_e, cr_up_n]; exact pi
    have m2 : (J8 200 13 - 1).toInt = (J8 200 13).toInt - 1 := by rw [e8]; simp (disch := omega) only [cr_up_e, cr_up_n]; exact a2
    refine fin _ _ fun Q2 q2 => w9_stranger m2 (fun d1 => by exfalso; omega) (fun d1 d2 => by exfalso; omega) (fun d1 d2 => ?_)
    refine q2 _ ?_
    rw [e8]
    refine ⟨h0, (htx.fr fun b k hb => by unfold rl_tx at hb; simp (disch := omega) only [cr_up_e, cr_up_n]), (hmk.fr fun b k hb => by unfold rl_mk at hb; simp (disch := omega) only [cr_up_e, cr_up_n]), (htb.fr h0 fun b k hb => by unfold rl_tb rl_tm at hb; simp (disch := omega) only [cr_up_e, cr_up_n]), (hro.fr fun b k hb => by unfold rl_ro at hb; simp (disch := omega) only [cr_up_e, cr_up_n]), (hse.fr fun b k hb => by unfold rl_se at hb; simp (disch := omega) only [cr_up_e, cr_up_n]), (hpu.fr fun b k hb => by unfold rl_pu at hb; simp (disch := omega) only [cr_up_e, cr_up_n]), (hlo.fr fun b k hb => by unfold rl_lo at hb; simp (disch := omega) only [cr_up_e, cr_up_n]), (hhi.fr fun b k hb => by unfold rl_hi at hb; simp (disch := omega) only [cr_up_e, cr_up_n]), ?_, (hjo.fr fun b k hb => by unfold rl_jo at hb; simp (disch := omega) only [cr_up_e, cr_up_n]), (hsp.fr fun b k hb => by unfold rl_sp at hb; simp (disch := omega) only [cr_up_e, cr_up_n]), (hck.fr fun b k hb => by unfold rl_ck at hb; simp (disch := omega) only [cr_up_e, cr_up_n])⟩
    unfold cr_Rst cr_sok
    simp (disch := omega) only [cr_up_e, cr_up_n]
    exact ⟨⟨⟨by omega, by omega⟩, ⟨by omega, by omega⟩, by omega⟩, c2.2.2, by trivial, by trivial, by trivial, by trivial⟩
theorem w8_spared {τ : Nat → Nat} {I : cr_I} {x1 x2 x3 : Int32} {Q : Int32 → cr_I → Prop} (f1 : ¬ ((0 ≤ x1.toInt ∧ x1.toInt ≤ 5) ∧ (0 ≤ x2.toInt ∧ x2.toInt ≤ 5) ∧ ¬ x1.toInt = x2.toInt) → Q (-2) I) (f2 : ((0 ≤ x1.toInt ∧ x1.toInt ≤ 5) ∧ (0 ≤ x2.toInt ∧ x2.toInt ≤ 5) ∧ ¬ x1.toInt = x2.toInt) → ¬ (0 ≤ x3.toInt ∧ x3.toInt ≤ 99) → Q (-3) I) (ok : ((0 ≤ x1.toInt ∧ x1.toInt ≤ 5) ∧ (0 ≤ x2.toInt ∧ x2.toInt ≤ 5) ∧ ¬ x1.toInt = x2.toInt) → (0 ≤ x3.toInt ∧ x3.toInt ≤ 99) → Q (I (179 + x1.toNatClampNeg) x2.toNatClampNeg) (cr_up I (179 + x1.toNatClampNeg) x2.toNatClampNeg x3)) : t_yX8_spared τ x1 x2 x3 I Q := by
  unfold t_yX8_spared
  simp only [f_yX8_isNoMake, f_yX8_isNoPerson, f_yX8_isNoClock, f_yX8_isNoEvent, f_yX8_isNoLorry, f_yX8_isNoFollower, cr_nopl, cr_out0, @cr_eq x1 x2, zi_0, zi_1, zi_2, zi_3, zi_4, zi_5, zi_6, zi_8, zi_9, zi_12, zi_23, zi_31, zi_40, zi_60, zi_63, zi_99, zi_999, zi_2000, zi_m9, zl_0, zl_1, zl_2, zl_3, zl_4, zl_5, zl_6, zl_8, zl_9, zl_12, zl_23, zl_31, zl_40, zl_60, zl_63, zl_99, zl_999, zl_2000, zl_m9]
  repeat' (first | apply And.intro | intro _)
  all_goals (try subst_vars)
  all_goals (try simp only [cr_up_s])
  all_goals first | omega | exact f1 (by omega) | exact f2 (by omega) (by omega) | exact ok (by omega) (by omega)
theorem cr_six {x1 x2 : Int32} (h1 : 0 ≤ x1.toInt ∧ x1.toInt ≤ 5) (h2 : 0 ≤ x2.toInt ∧ x2.toInt ≤ 5) : (0 ≤ (((6 : Int32) * x1) + x2).toInt ∧ (((6 : Int32) * x1) + x2).toInt < 36) ∧ (((6 : Int32) * x1) + x2).toNatClampNeg = 6 * x1.toNatClampNeg + x2.toNatClampNeg := by
  have z : (6 : Int32).toInt = 6 := rfl
  have m1 : ((6 : Int32) * x1).toInt = 6 * x1.toInt := by rw [cr_mul (by rw [z]; omega), z]
  have m2 : (((6 : Int32) * x1) + x2).toInt = 6 * x1.toInt + x2.toInt := by rw [cr_add (by rw [m1]; omega), m1]
  refine ⟨by omega, ?_⟩
  show (((6 : Int32) * x1) + x2).toInt.toNat = 6 * x1.toInt.toNat + x2.toInt.toNat
  omega
theorem w9_spared {τ : Nat → Nat} {I : cr_I} {x1 x2 x3 : Int32} {Q : Int32 → cr_I → Prop} (f1 : ¬ ((0 ≤ x1.toInt ∧ x1.toInt ≤ 5) ∧ (0 ≤ x2.toInt ∧ x2.toInt ≤ 5) ∧ ¬ x1.toInt = x2.toInt) → Q (-2) I) (f2 : ((0 ≤ x1.toInt ∧ x1.toInt ≤ 5) ∧ (0 ≤ x2.toInt ∧ x2.toInt ≤ 5) ∧ ¬ x1.toInt = x2.toInt) → ¬ (0 ≤ x3.toInt ∧ x3.toInt ≤ 99) → Q (-3) I) (ok : ((0 ≤ x1.toInt ∧ x1.toInt ≤ 5) ∧ (0 ≤ x2.toInt ∧ x2.toInt ≤ 5) ∧ ¬ x1.toInt = x2.toInt) → (0 ≤ x3.toInt ∧ x3.toInt ≤ 99) → Q (I 226 (6 * x1.toNatClampNeg + x2.toNatClampNeg)) (cr_up I 226 (6 * x1.toNatClampNeg + x2.toNatClampNeg) x3)) : t_yX9_spared τ x1 x2 x3 I Q := by
  unfold t_yX9_spared
  simp only [f_yX9_isSix, cr_in0, Int32.toInt_toInt64, Classical.not_not, zl_0, zl_5, zl_99, @cr_eq x1 x2]
  refine ⟨fun q => f1 (by omega), fun q => ⟨fun q2 => f1 (by omega), fun q2 => ⟨fun q3 => ⟨fun q4 => ?_, fun q4 => f2 ⟨q, q2, q3⟩ q4⟩, fun q3 => f1 (by omega)⟩⟩⟩
  obtain ⟨e1, e2⟩ := cr_six q q2
  refine ⟨e1, fun v hv => ⟨e1, fun J hJ => ?_⟩⟩
  subst hv
  subst hJ
  rw [e2]
  exact ok ⟨q, q2, q3⟩ q4
theorem S_spared {x1 x2 x3 : Int32} : cr_S T_yX8_spared T_yX9_spared [.int x1, .int x2, .int x3] := by
  intro τ I K h hk
  obtain ⟨h0, htx, hmk, htb, hro, hse, hpu, hlo, hhi, hst, hjo, hsp, hck⟩ := id h
  have fin : ∀ (r : Int32) (J : cr_I), (∀ Q2 : Int32 → cr_I → Prop, (∀ I2, cr_Rel τ I2 → Q2 r I2) → t_yX9_spared τ x1 x2 x3 J Q2) → K (some (.int r)) J (cr_rf τ) := fun r J h9 => hk r J τ fun K2 k2 => ⟨τ, x1, x2, x3, fun r' J' => K2 (some (.int r')) J' (cr_rf τ), rfl, h0, rfl, h9 _ k2, fun _ _ q => q⟩
  refine ⟨τ, x1, x2, x3, fun r J => K (some (.int r)) J (cr_rf τ), rfl, h0, rfl, ?_, fun _ _ q => q⟩
  refine w8_spared (fun c1 => ?_) (fun c1 c2 => ?_) (fun c1 c2 => ?_)
  · refine fin _ _ fun Q2 q2 => w9_spared (fun d1 => by first | (exfalso; omega) | exact q2 _ h) (fun d1 d2 => by first | (exfalso; omega) | exact q2 _ h) (fun d1 d2 => by first | (exfalso; omega) | exact q2 _ h)
  · refine fin _ _ fun Q2 q2 => w9_spared (fun d1 => by first | (exfalso; omega) | exact q2 _ h) (fun d1 d2 => by first | (exfalso; omega) | exact q2 _ h) (fun d1 d2 => by first | (exfalso; omega) | exact q2 _ h)
  · have h1 : x1.toNatClampNeg ≤ 5 := cr_n4 c1.1
    have h2 : x2.toNatClampNeg ≤ 5 := cr_n4 c1.2.1
    obtain ⟨J8, e8⟩ : ∃ J : cr_I, J = cr_up I (179 + x1.toNatClampNeg) x2.toNatClampNeg x3 := ⟨_, rfl⟩
    rw [← e8]
    have m1 : J8 226 (6 * x1.toNatClampNeg + x2.toNatClampNeg) = I (179 + x1.toNatClampNeg) x2.toNatClampNeg := by rw [e8]; simp (disch := omega) only [cr_up_e, cr_up_n]; exact (hsp _ (by omega) _ (by omega)).1
    refine fin _ _ fun Q2 q2 => w9_spared (fun d1 => by exfalso; omega) (fun d1 d2 => by exfalso; omega) (fun d1 d2 => ?_)
    rw [m1]
    refine q2 _ ?_
    rw [e8]
    refine ⟨h0, (htx.fr fun b k hb => by unfold rl_tx at hb; simp (disch := omega) only [cr_up_e, cr_up_n]), (hmk.fr fun b k hb => by unfold rl_mk at hb; simp (disch := omega) only [cr_up_e, cr_up_n]), (htb.fr h0 fun b k hb => by unfold rl_tb rl_tm at hb; simp (disch := omega) only [cr_up_e, cr_up_n]), (hro.fr fun b k hb => by unfold rl_ro at hb; simp (disch := omega) only [cr_up_e, cr_up_n]), (hse.fr fun b k hb => by unfold rl_se at hb; simp (disch := omega) only [cr_up_e, cr_up_n]), (hpu.fr fun b k hb => by unfold rl_pu at hb; simp (disch := omega) only [cr_up_e, cr_up_n]), (hlo.fr fun b k hb => by unfold rl_lo at hb; simp (disch := omega) only [cr_up_e, cr_up_n]), (hhi.fr fun b k hb => by unfold rl_hi at hb; simp (disch := omega) only [cr_up_e, cr_up_n]), (hst.fr fun b k hb => by unfold rl_st at hb; simp (disch := omega) only [cr_up_e, cr_up_n]), (hjo.fr fun b k hb => by unfold rl_jo at hb; simp (disch := omega) only [cr_up_e, cr_up_n]), ?_, (hck.fr fun b k hb => by unfold rl_ck at hb; simp (disch := omega) only [cr_up_e, cr_up_n])⟩
    generalize x1.toNatClampNeg = p at h1
    generalize x2.toNatClampNeg = a at h2
    intro i hi j hj
    obtain ⟨s1, s2, s3⟩ := hsp i hi j hj
    by_cases e : i = p ∧ j = a
    · simp (disch := omega) only [cr_up_e, cr_up_n]
      exact ⟨by trivial, c2⟩
    · simp (disch := omega) only [cr_up_e, cr_up_n]
      exact ⟨s1, s2, s3⟩
theorem w8_clock {τ : Nat → Nat} {I : cr_I} {x1 x2 : Int32} {Q : Int32 → cr_I → Prop} (f1 : ¬ (0 ≤ x1.toInt ∧ x1.toInt ≤ 5) → Q (-2) I) (f2 : (0 ≤ x1.toInt ∧ x1.toInt ≤ 5) → ¬ (0 ≤ x2.toInt ∧ x2.toInt ≤ 60) → Q (-3) I) (ok : (0 ≤ x1.toInt ∧ x1.toInt ≤ 5) → (0 ≤ x2.toInt ∧ x2.toInt ≤ 60) → Q (I 186 x1.toNatClampNeg) (cr_up I 186 x1.toNatClampNeg x2)) : t_yX8_clock τ x1 x2 I Q := by
  unfold t_yX8_clock
  simp only [f_yX8_isNoMake, f_yX8_isNoPerson, f_yX8_isNoClock, f_yX8_isNoEvent, f_yX8_isNoLorry, f_yX8_isNoFollower, cr_nopl, cr_out0, zi_0, zi_1, zi_2, zi_3, zi_4, zi_5, zi_6, zi_8, zi_9, zi_12, zi_23, zi_31, zi_40, zi_60, zi_63, zi_99, zi_999, zi_2000, zi_m9, zl_0, zl_1, zl_2, zl_3, zl_4, zl_5, zl_6, zl_8, zl_9, zl_12, zl_23, zl_31, zl_40, zl_60, zl_63, zl_99, zl_999, zl_2000, zl_m9]
  repeat' (first | apply And.intro | intro _)
  all_goals (try subst_vars)
  all_goals (try simp only [cr_up_s])
  all_goals first | omega | exact f1 (by omega) | exact f2 (by omega) (by omega) | exact ok (by omega) (by omega)
theorem w9_clock {τ : Nat → Nat} {I : cr_I} {x1 x2 : Int32} {Q : Int32 → cr_I → Prop} (f1 : ¬ (0 ≤ x1.toInt ∧ x1.toInt ≤ 5) → Q (-2) I) (f2 : (0 ≤ x1.toInt ∧ x1.toInt ≤ 5) → ¬ (0 ≤ x2.toInt ∧ x2.toInt ≤ 60) → Q (-3) I) (ok : (0 ≤ x1.toInt ∧ x1.toInt ≤ 5) → (0 ≤ x2.toInt ∧ x2.toInt ≤ 60) → Q (I 227 x1.toNatClampNeg) (cr_up I 227 x1.toNatClampNeg x2)) : t_yX9_clock τ x1 x2 I Q := by
  unfold t_yX9_clock
  simp only [f_yX9_isMake, f_yX9_isSix, f_yX9_isLorry, f_yX9_isEvent, cr_in0, Int32.toInt_toInt64, Classical.not_not, zi_0, zi_1, zi_2, zi_3, zi_4, zi_5, zi_6, zi_8, zi_9, zi_12, zi_23, zi_31, zi_40, zi_60, zi_63, zi_99, zi_999, zi_2000, zi_m9, zl_0, zl_1, zl_2, zl_3, zl_4, zl_5, zl_6, zl_8, zl_9, zl_12, zl_23, zl_31, zl_40, zl_60, zl_63, zl_99, zl_999, zl_2000, zl_m9]
  repeat' (first | apply And.intro | intro _)
  all_goals (try subst_vars)
  all_goals (try simp only [cr_up_s])
  all_goals first | omega | exact f1 (by omega) | exact f2 (by omega) (by omega) | exact ok (by omega) (by omega)
theorem S_clock {x1 x2 : Int32} : cr_S T_yX8_clock T_yX9_clock [.int x1, .int x2] := by
  intro τ I K h hk
  obtain ⟨h0, htx, hmk, htb, hro, hse, hpu, hlo, hhi, hst, hjo, hsp, hck⟩ := id h
  have fin : ∀ (r : Int32) (J : cr_I), (∀ Q2 : Int32 → cr_I → Prop, (∀ I2, cr_Rel τ I2 → Q2 r I2) → t_yX9_clock τ x1 x2 J Q2) → K (some (.int r)) J (cr_rf τ) := fun r J h9 => hk r J τ fun K2 k2 => ⟨τ, x1, x2, fun r' J' => K2 (some (.int r')) J' (cr_rf τ), rfl, h0, rfl, h9 _ k2, fun _ _ q => q⟩
  refine ⟨τ, x1, x2, fun r J => K (some (.int r)) J (cr_rf τ), rfl, h0, rfl, ?_, fun _ _ q => q⟩
  refine w8_clock (fun c1 => ?_) (fun c1 c2 => ?_) (fun c1 c2 => ?_)
  · refine fin _ _ fun Q2 q2 => w9_clock (fun d1 => by first | (exfalso; omega) | exact q2 _ h) (fun d1 d2 => by first | (exfalso; omega) | exact q2 _ h) (fun d1 d2 => by first | (exfalso; omega) | exact q2 _ h)
  · refine fin _ _ fun Q2 q2 => w9_clock (fun d1 => by first | (exfalso; omega) | exact q2 _ h) (fun d1 d2 => by first | (exfalso; omega) | exact q2 _ h) (fun d1 d2 => by first | (exfalso; omega) | exact q2 _ h)
  · have hm : x1.toNatClampNeg ≤ 5 := cr_n4 c1
    obtain ⟨J8, e8⟩ : ∃ J : cr_I, J = cr_up I 186 x1.toNatClampNeg x2 := ⟨_, rfl⟩
    rw [← e8]
    have m1 : J8 227 x1.toNatClampNeg = I 186 x1.toNatClampNeg := by rw [e8]; simp (disch := omega) only [cr_up_e, cr_up_n]; exact congrFun hck.2.2.2.2.2.1 _
    refine fin _ _ fun Q2 q2 => w9_clock (fun d1 => by exfalso; omega) (fun d1 d2 => by exfalso; omega) (fun d1 d2 => ?_)
    rw [m1]
    refine q2 _ ?_
    rw [e8]
    refine ⟨h0, (htx.fr fun b k hb => by unfold rl_tx at hb; simp (disch := omega) only [cr_up_e, cr_up_n]), (hmk.fr fun b k hb => by unfold rl_mk at hb; simp (disch := omega) only [cr_up_e, cr_up_n]), (htb.fr h0 fun b k hb => by unfold rl_tb rl_tm at hb; simp (disch := omega) only [cr_up_e, cr_up_n]), (hro.fr fun b k hb => by unfold rl_ro at hb; simp (disch := omega) only [cr_up_e, cr_up_n]), (hse.fr fun b k hb => by unfold rl_se at hb; simp (disch := omega) only [cr_up_e, cr_up_n]), (hpu.fr fun b k hb => by unfold rl_pu at hb; simp (disch := omega) only [cr_up_e, cr_up_n]), (hlo.fr fun b k hb => by unfold rl_lo at hb; simp (disch := omega) only [cr_up_e, cr_up_n]), (hhi.fr fun b k hb => by unfold rl_hi at hb; simp (disch := omega) only [cr_up_e, cr_up_n]), (hst.fr fun b k hb => by unfold rl_st at hb; simp (disch := omega) only [cr_up_e, cr_up_n]), (hjo.fr fun b k hb => by unfold rl_jo at hb; simp (disch := omega) only [cr_up_e, cr_up_n]), (hsp.fr fun b k hb => by unfold rl_sp at hb; simp (disch := omega) only [cr_up_e, cr_up_n]), ?_⟩
    generalize x1.toNatClampNeg = p at hm
    obtain ⟨⟨w1, w2, w3, w4⟩, k6, k1, k39, k43, q27, q28, q29, q30, q31, q32⟩ := hck
    unfold cr_Rck cr_cw
    refine ⟨⟨fun c hc => ?_, fun e he => ?_, fun k hk => ?_, ?_⟩, ?_, ?_, ?_, ?_, funext fun k => ?_, funext fun k => ?_, funext fun k => ?_, funext fun k => ?_, funext fun k => ?_, funext fun k => ?_⟩
    · by_cases e : c = p
      · simp (disch := omega) only [cr_up_e, cr_up_n]
        exact c2
      · simp (disch := omega) only [cr_up_e, cr_up_n]
        exact w1 c hc
    · simp (disch := omega) only [cr_up_e, cr_up_n]
      exact w2 e he
    · simp (disch := omega) only [cr_up_e, cr_up_n]
      exact w3 k hk
    · simp (disch := omega) only [cr_up_e, cr_up_n]
      exact w4
    · simp (disch := omega) only [cr_up_e, cr_up_n]
      exact k6
    · simp (disch := omega) only [cr_up_e, cr_up_n]
      exact k1
    · simp (disch := omega) only [cr_up_e, cr_up_n]
      exact k39
    · simp (disch := omega) only [cr_up_e, cr_up_n]
      exact k43
    · by_cases e : k = p
      · simp (disch := omega) only [cr_up_e, cr_up_n]
      · simp (disch := omega) only [cr_up_e, cr_up_n]
        exact congrFun q27 k
    · simp (disch := omega) only [cr_up_e, cr_up_n]
      exact congrFun q28 k
    · simp (disch := omega) only [cr_up_e, cr_up_n]
      exact congrFun q29 k
    · simp (disch := omega) only [cr_up_e, cr_up_n]
      exact congrFun q30 k
    · simp (disch := omega) only [cr_up_e, cr_up_n]
      exact congrFun q31 k
    · simp (disch := omega) only [cr_up_e, cr_up_n]
      exact congrFun q32 k
theorem w8_event {τ : Nat → Nat} {I : cr_I} {x1 x2 : Int32} {Q : Int32 → cr_I → Prop} (a1 : 0 ≤ (I 185 1).toInt ∧ (I 185 1).toInt ≤ 12) (f1 : ¬ (0 ≤ x1.toInt ∧ x1.toInt ≤ 5) → Q (-2) I) (f2 : (0 ≤ x1.toInt ∧ x1.toInt ≤ 5) → ¬ (0 ≤ x2.toInt ∧ x2.toInt ≤ 999) → Q (-3) I) (f3 : (0 ≤ x1.toInt ∧ x1.toInt ≤ 5) → (0 ≤ x2.toInt ∧ x2.toInt ≤ 999) → ¬ ((I 185 1).toInt < 12) → Q (-5) I) (ok : (0 ≤ x1.toInt ∧ x1.toInt ≤ 5) → (0 ≤ x2.toInt ∧ x2.toInt ≤ 999) → ((I 185 1).toInt < 12) → Q (I 185 1) (cr_up (cr_up (cr_up I 187 (I 185 1).toNatClampNeg x1) 188 (I 185 1).toNatClampNeg x2) 185 1 (I 185 1 + 1))) : t_yX8_event τ x1 x2 I Q := by
  unfold t_yX8_event
  simp only [f_yX8_isNoMake, f_yX8_isNoPerson, f_yX8_isNoClock, f_yX8_isNoEvent, f_yX8_isNoLorry, f_yX8_isNoFollower, cr_nopl, cr_out0, cr_lt, zi_0, zi_1, zi_2, zi_3, zi_4, zi_5, zi_6, zi_8, zi_9, zi_12, zi_23, zi_31, zi_40, zi_60, zi_63, zi_99, zi_999, zi_2000, zi_m9, zl_0, zl_1, zl_2, zl_3, zl_4, zl_5, zl_6, zl_8, zl_9, zl_12, zl_23, zl_31, zl_40, zl_60, zl_63, zl_99, zl_999, zl_2000, zl_m9]
  have u0 : ∀ (f : cr_I) (k : Nat) (v : Int32), cr_up f 187 k v 185 1 = f 185 1 := fun _ _ _ => cr_up_b (by decide)
  have u1 : ∀ (f : cr_I) (k : Nat) (v : Int32), cr_up f 188 k v 185 1 = f 185 1 := fun _ _ _ => cr_up_b (by decide)
  repeat' (first | apply And.intro | intro _)
  all_goals (try subst_vars)
  all_goals (try simp only [u0, u1, cr_up_s])
  all_goals first | omega | exact f1 (by omega) | exact f2 (by omega) (by omega) | exact f3 (by omega) (by omega) (by omega) | exact ok (by omega) (by omega) (by omega)
theorem w9_event {τ : Nat → Nat} {I : cr_I} {x1 x2 : Int32} {Q : Int32 → cr_I → Prop} (a1 : 0 ≤ (I 200 39).toInt ∧ (I 200 39).toInt ≤ 12) (f1 : ¬ (0 ≤ x1.toInt ∧ x1.toInt ≤ 5) → Q (-2) I) (f2 : (0 ≤ x1.toInt ∧ x1.toInt ≤ 5) → ¬ (0 ≤ x2.toInt ∧ x2.toInt ≤ 999) → Q (-3) I) (f3 : (0 ≤ x1.toInt ∧ x1.toInt ≤ 5) → (0 ≤ x2.toInt ∧ x2.toInt ≤ 999) → ¬ ((I 200 39).toInt < 12) → Q (-5) I) (ok : (0 ≤ x1.toInt ∧ x1.toInt ≤ 5) → (0 ≤ x2.toInt ∧ x2.toInt ≤ 999) → ((I 200 39).toInt < 12) → Q (I 200 39) (cr_up (cr_up (cr_up I 228 (I 200 39).toNatClampNeg x1) 229 (I 200 39).toNatClampNeg x2) 200 39 (I 200 39 + 1))) : t_yX9_event τ x1 x2 I Q := by
  have u : ∀ (f : cr_I) (k : Nat) (v : Int32), cr_up f 228 k v 200 39 = f 200 39 := fun _ _ _ => cr_up_b (by decide)
  have u' : ∀ (f : cr_I) (k : Nat) (v : Int32), cr_up f 229 k v 200 39 = f 200 39 := fun _ _ _ => cr_up_b (by decide)
  have s : I 200 39 + 1 - 1 = I 200 39 := by
    have e1 : (I 200 39 + 1).toInt = (I 200 39).toInt + 1 := cr_add1 (by omega)
    rw [cr_eq, cr_sub1 (by omega), e1]; omega
  unfold t_yX9_event
  simp only [f_yX9_isSix, cr_in0, Int32.toInt_toInt64, Classical.not_not, zl_0, zl_5, zl_999, @cr_eq (I 200 39) 12, zi_12]
  repeat' (first | apply And.intro | intro _)
  all_goals (try subst_vars)
  all_goals (try simp only [u, u', cr_up_s, s])
  all_goals first | omega | exact f1 (by omega) | exact f2 (by omega) (by omega) | exact f3 (by omega) (by omega) (by omega) | exact ok (by omega) (by omega) (by omega)
theorem S_event {x1 x2 : Int32} : cr_S T_yX8_event T_yX9_event [.int x1, .int x2] := by
  intro τ I K h hk
  obtain ⟨h0, htx, hmk, htb, hro, hse, hpu, hlo, hhi, hst, hjo, hsp, hck⟩ := id h
  have fin : ∀ (r : Int32) (J : cr_I), (∀ Q2 : Int32 → cr_I → Prop, (∀ I2, cr_Rel τ I2 → Q2 r I2) → t_yX9_event τ x1 x2 J Q2) → K (some (.int r)) J (cr_rf τ) := fun r J h9 => hk r J τ fun K2 k2 => ⟨τ, x1, x2, fun r' J' => K2 (some (.int r')) J' (cr_rf τ), rfl, h0, rfl, h9 _ k2, fun _ _ q => q⟩
  refine ⟨τ, x1, x2, fun r J => K (some (.int r)) J (cr_rf τ), rfl, h0, rfl, ?_, fun _ _ q => q⟩
  have pe := hck.2.2.2.1
  have pi : (I 200 39).toInt = (I 185 1).toInt := by rw [pe]
  have a1 := hck.2.2.1
  refine w8_event a1 (fun c1 => ?_) (fun c1 c2 => ?_) (fun c1 c2 c3 => ?_) (fun c1 c2 c3 => ?_)
  · refine fin _ _ fun Q2 q2 => w9_event (by omega) (fun d1 => by first | (exfalso; omega) | exact q2 _ h) (fun d1 d2 => by first | (exfalso; omega) | exact q2 _ h) (fun d1 d2 d3 => by first | (exfalso; omega) | exact q2 _ h) (fun d1 d2 d3 => by first | (exfalso; omega) | exact q2 _ h)
  · refine fin _ _ fun Q2 q2 => w9_event (by omega) (fun d1 => by first | (exfalso; omega) | exact q2 _ h) (fun d1 d2 => by first | (exfalso; omega) | exact q2 _ h) (fun d1 d2 d3 => by first | (exfalso; omega) | exact q2 _ h) (fun d1 d2 d3 => by first | (exfalso; omega) | exact q2 _ h)
  · refine fin _ _ fun Q2 q2 => w9_event (by omega) (fun d1 => by first | (exfalso; omega) | exact q2 _ h) (fun d1 d2 => by first | (exfalso; omega) | exact q2 _ h) (fun d1 d2 d3 => by first | (exfalso; omega) | exact q2 _ h) (fun d1 d2 d3 => by first | (exfalso; omega) | exact q2 _ h)
  · obtain ⟨J8, e8⟩ : ∃ J : cr_I, J = cr_up (cr_up (cr_up I 187 (I 185 1).toNatClampNeg x1) 188 (I 185 1).toNatClampNeg x2) 185 1 (I 185 1 + 1) := ⟨_, rfl⟩
    rw [← e8]
    have m1 : J8 200 39 = I 185 1 := by rw [e8]; simp (disch := omega) only [cr_up_e, cr_up_n]; exact pe
    have m2 : (J8 200 39).toInt = (I 185 1).toInt := by rw [e8]; simp (disch := omega) only [cr_up_e, cr_up_n]; exact pi
    refine fin _ _ fun Q2 q2 => w9_event (by omega) (fun d1 => by exfalso; omega) (fun d1 d2 => by exfalso; omega) (fun d1 d2 d3 => by exfalso; omega) (fun d1 d2 d3 => ?_)
    rw [m1]
    refine q2 _ ?_
    rw [e8]
    refine ⟨h0, (htx.fr fun b k hb => by unfold rl_tx at hb; simp (disch := omega) only [cr_up_e, cr_up_n]), (hmk.fr fun b k hb => by unfold rl_mk at hb; simp (disch := omega) only [cr_up_e, cr_up_n]), (htb.fr h0 fun b k hb => by unfold rl_tb rl_tm at hb; simp (disch := omega) only [cr_up_e, cr_up_n]), (hro.fr fun b k hb => by unfold rl_ro at hb; simp (disch := omega) only [cr_up_e, cr_up_n]), (hse.fr fun b k hb => by unfold rl_se at hb; simp (disch := omega) only [cr_up_e, cr_up_n]), (hpu.fr fun b k hb => by unfold rl_pu at hb; simp (disch := omega) only [cr_up_e, cr_up_n]), (hlo.fr fun b k hb => by unfold rl_lo at hb; simp (disch := omega) only [cr_up_e, cr_up_n]), (hhi.fr fun b k hb => by unfold rl_hi at hb; simp (disch := omega) only [cr_up_e, cr_up_n]), (hst.fr fun b k hb => by unfold rl_st at hb; simp (disch := omega) only [cr_up_e, cr_up_n]), (hjo.fr fun b k hb => by unfold rl_jo at hb; simp (disch := omega) only [cr_up_e, cr_up_n]), (hsp.fr fun b k hb => by unfold rl_sp at hb; simp (disch := omega) only [cr_up_e, cr_up_n]), ?_⟩
    have hp : (I 185 1).toNatClampNeg ≤ 11 := cr_n4 (by omega)
    have hs : (I 185 1 + 1).toInt = (I 185 1).toInt + 1 := cr_add1 (by omega)
    generalize (I 185 1).toNatClampNeg = p at hp
    obtain ⟨⟨w1, w2, w3, w4⟩, k6, k1, k39, k43, q27, q28, q29, q30, q31, q32⟩ := hck
    unfold cr_Rck cr_cw
    refine ⟨⟨fun c hc => ?_, fun e he => ?_, fun k hk => ?_, ?_⟩, ?_, ?_, ?_, ?_, funext fun k => ?_, funext fun k => ?_, funext fun k => ?_, funext fun k => ?_, funext fun k => ?_, funext fun k => ?_⟩
    · simp (disch := omega) only [cr_up_e, cr_up_n]
      exact w1 c hc
    · by_cases g : e = p
      · simp (disch := omega) only [cr_up_e, cr_up_n]
        exact ⟨⟨c1.1, by omega⟩, c2⟩
      · simp (disch := omega) only [cr_up_e, cr_up_n]
        exact w2 e he
    · simp (disch := omega) only [cr_up_e, cr_up_n]
      exact w3 k hk
    · simp (disch := omega) only [cr_up_e, cr_up_n]
      exact w4
    · simp (disch := omega) only [cr_up_e, cr_up_n]
      exact k6
    · simp (disch := omega) only [cr_up_e, cr_up_n]
      omega
    · simp (disch := omega) only [cr_up_e, cr_up_n]
    · simp (disch := omega) only [cr_up_e, cr_up_n]
      exact k43
    · simp (disch := omega) only [cr_up_e, cr_up_n]
      exact congrFun q27 k
    · by_cases e : k = p
      · simp (disch := omega) only [cr_up_e, cr_up_n]
      · simp (disch := omega) only [cr_up_e, cr_up_n]
        exact congrFun q28 k
    · by_cases e : k = p
      · simp (disch := omega) only [cr_up_e, cr_up_n]
      · simp (disch := omega) only [cr_up_e, cr_up_n]
        exact congrFun q29 k
    · simp (disch := omega) only [cr_up_e, cr_up_n]
      exact congrFun q30 k
    · simp (disch := omega) only [cr_up_e, cr_up_n]
      exact congrFun q31 k
    · simp (disch := omega) only [cr_up_e, cr_up_n]
      exact congrFun q32 k

theorem w8_after {τ : Nat → Nat} {I : cr_I} {x1 x2 x3 : Int32} {Q : Int32 → cr_I → Prop} (a1 : 0 ≤ (I 185 4).toInt ∧ (I 185 4).toInt ≤ 12) (a2 : (I 185 1 - 1).toInt = (I 185 1).toInt - 1) (f1 : ¬ ((0 ≤ x1.toInt ∧ x1.toInt < (I 185 1).toInt) ∧ (0 ≤ x2.toInt ∧ x2.toInt < (I 185 1).toInt) ∧ ¬ x1.toInt = x2.toInt) → Q (-2) I) (f2 : ((0 ≤ x1.toInt ∧ x1.toInt < (I 185 1).toInt) ∧ (0 ≤ x2.toInt ∧ x2.toInt < (I 185 1).toInt) ∧ ¬ x1.toInt = x2.toInt) → ¬ (0 ≤ x3.toInt ∧ x3.toInt ≤ 99) → Q (-3) I) (f3 : ((0 ≤ x1.toInt ∧ x1.toInt < (I 185 1).toInt) ∧ (0 ≤ x2.toInt ∧ x2.toInt < (I 185 1).toInt) ∧ ¬ x1.toInt = x2.toInt) → (0 ≤ x3.toInt ∧ x3.toInt ≤ 99) → ¬ ((I 185 4).toInt < 12) → Q (-5) I) (ok : ((0 ≤ x1.toInt ∧ x1.toInt < (I 185 1).toInt) ∧ (0 ≤ x2.toInt ∧ x2.toInt < (I 185 1).toInt) ∧ ¬ x1.toInt = x2.toInt) → (0 ≤ x3.toInt ∧ x3.toInt ≤ 99) → ((I 185 4).toInt < 12) → Q (I 185 4 + 1) (cr_up (cr_up (cr_up (cr_up I 189 (I 185 4).toNatClampNeg x1) 190 (I 185 4).toNatClampNeg x2) 191 (I 185 4).toNatClampNeg x3) 185 4 (I 185 4 + 1))) : t_yX8_after τ x1 x2 x3 I Q := by
  unfold t_yX8_after
  simp only [f_yX8_isNoMake, f_yX8_isNoPerson, f_yX8_isNoClock, f_yX8_isNoEvent, f_yX8_isNoLorry, f_yX8_isNoFollower, cr_nopl, cr_out0, cr_lt, @cr_eq x1 x2, a2, zi_0, zi_1, zi_2, zi_3, zi_4, zi_5, zi_6, zi_8, zi_9, zi_12, zi_23, zi_31, zi_40, zi_60, zi_63, zi_99, zi_999, zi_2000, zi_m9, zl_0, zl_1, zl_2, zl_3, zl_4, zl_5, zl_6, zl_8, zl_9, zl_12, zl_23, zl_31, zl_40, zl_60, zl_63, zl_99, zl_999, zl_2000, zl_m9]
  have u0 : ∀ (f : cr_I) (k : Nat) (v : Int32), cr_up f 189 k v 185 4 = f 185 4 := fun _ _ _ => cr_up_b (by decide)
  have u1 : ∀ (f : cr_I) (k : Nat) (v : Int32), cr_up f 190 k v 185 4 = f 185 4 := fun _ _ _ => cr_up_b (by decide)
  have u2 : ∀ (f : cr_I) (k : Nat) (v : Int32), cr_up f 191 k v 185 4 = f 185 4 := fun _ _ _ => cr_up_b (by decide)
  repeat' (first | apply And.intro | intro _)
  all_goals (try subst_vars)
  all_goals (try simp only [u0, u1, u2, cr_up_s])
  all_goals first | omega | exact f1 (by omega) | exact f2 (by omega) (by omega) | exact f3 (by omega) (by omega) (by omega) | exact ok (by omega) (by omega) (by omega)
theorem w9_after {τ : Nat → Nat} {I : cr_I} {x1 x2 x3 : Int32} {Q : Int32 → cr_I → Prop} (a1 : 0 ≤ (I 200 43).toInt ∧ (I 200 43).toInt ≤ 12) (a2 : (I 200 39 - 1).toInt = (I 200 39).toInt - 1) (f1 : ¬ ((0 ≤ x1.toInt ∧ x1.toInt < (I 200 39).toInt) ∧ (0 ≤ x2.toInt ∧ x2.toInt < (I 200 39).toInt) ∧ ¬ x1.toInt = x2.toInt) → Q (-2) I) (f2 : ((0 ≤ x1.toInt ∧ x1.toInt < (I 200 39).toInt) ∧ (0 ≤ x2.toInt ∧ x2.toInt < (I 200 39).toInt) ∧ ¬ x1.toInt = x2.toInt) → ¬ (0 ≤ x3.toInt ∧ x3.toInt ≤ 99) → Q (-3) I) (f3 : ((0 ≤ x1.toInt ∧ x1.toInt < (I 200 39).toInt) ∧ (0 ≤ x2.toInt ∧ x2.toInt < (I 200 39).toInt) ∧ ¬ x1.toInt = x2.toInt) → (0 ≤ x3.toInt ∧ x3.toInt ≤ 99) → ¬ ((I 200 43).toInt < 12) → Q (-5) I) (ok : ((0 ≤ x1.toInt ∧ x1.toInt < (I 200 39).toInt) ∧ (0 ≤ x2.toInt ∧ x2.toInt < (I 200 39).toInt) ∧ ¬ x1.toInt = x2.toInt) → (0 ≤ x3.toInt ∧ x3.toInt ≤ 99) → ((I 200 43).toInt < 12) → Q (I 200 43 + 1) (cr_up (cr_up (cr_up (cr_up I 230 (I 200 43).toNatClampNeg x1) 231 (I 200 43).toNatClampNeg x2) 232 (I 200 43).toNatClampNeg x3) 200 43 (I 200 43 + 1))) : t_yX9_after τ x1 x2 x3 I Q := by
  unfold t_yX9_after
  simp only [f_yX9_isMake, f_yX9_isSix, f_yX9_isLorry, f_yX9_isEvent, cr_in0, Int32.toInt_toInt64, Classical.not_not, @cr_eq (I 200 43) 12, @cr_eq x1 x2, a2, zi_0, zi_1, zi_2, zi_3, zi_4, zi_5, zi_6, zi_8, zi_9, zi_12, zi_23, zi_31, zi_40, zi_60, zi_63, zi_99, zi_999, zi_2000, zi_m9, zl_0, zl_1, zl_2, zl_3, zl_4, zl_5, zl_6, zl_8, zl_9, zl_12, zl_23, zl_31, zl_40, zl_60, zl_63, zl_99, zl_999, zl_2000, zl_m9]
  have u0 : ∀ (f : cr_I) (k : Nat) (v : Int32), cr_up f 230 k v 200 43 = f 200 43 := fun _ _ _ => cr_up_b (by decide)
  have u1 : ∀ (f : cr_I) (k : Nat) (v : Int32), cr_up f 231 k v 200 43 = f 200 43 := fun _ _ _ => cr_up_b (by decide)
  have u2 : ∀ (f : cr_I) (k : Nat) (v : Int32), cr_up f 232 k v 200 43 = f 200 43 := fun _ _ _ => cr_up_b (by decide)
  repeat' (first | apply And.intro | intro _)
  all_goals (try subst_vars)
  all_goals (try simp only [u0, u1, u2, cr_up_s])
  all_goals first | omega | exact f1 (by omega) | exact f2 (by omega) (by omega) | exact f3 (by omega) (by omega) (by omega) | exact ok (by omega) (by omega) (by omega)
theorem S_after {x1 x2 x3 : Int32} : cr_S T_yX8_after T_yX9_after [.int x1, .int x2, .int x3] := by
  intro τ I K h hk
  obtain ⟨h0, htx, hmk, htb, hro, hse, hpu, hlo, hhi, hst, hjo, hsp, hck⟩ := id h
  have fin : ∀ (r : Int32) (J : cr_I), (∀ Q2 : Int32 → cr_I → Prop, (∀ I2, cr_Rel τ I2 → Q2 r I2) → t_yX9_after τ x1 x2 x3 J Q2) → K (some (.int r)) J (cr_rf τ) := fun r J h9 => hk r J τ fun K2 k2 => ⟨τ, x1, x2, x3, fun r' J' => K2 (some (.int r')) J' (cr_rf τ), rfl, h0, rfl, h9 _ k2, fun _ _ q => q⟩
  refine ⟨τ, x1, x2, x3, fun r J => K (some (.int r)) J (cr_rf τ), rfl, h0, rfl, ?_, fun _ _ q => q⟩
  have pe := hck.2.2.2.2.1
  have pi : (I 200 43).toInt = (I 185 4).toInt := by rw [pe]
  have pf : (I 200 39).toInt = (I 185 1).toInt := by rw [hck.2.2.2.1]
  have a0 := hck.2.2.1
  have a1 := hck.1.2.2.2
  have a2 : (I 185 1 - 1).toInt = (I 185 1).toInt - 1 := cr_sub1 (by omega)
  have a3 : (I 200 39 - 1).toInt = (I 200 39).toInt - 1 := cr_sub1 (by omega)
  refine w8_after a1 a2 (fun c1 => ?_) (fun c1 c2 => ?_) (fun c1 c2 c3 => ?_) (fun c1 c2 c3 => ?_)
  · refine fin _ _ fun Q2 q2 => w9_after (by omega) a3 (fun d1 => by first | (exfalso; omega) | exact q2 _ h) (fun d1 d2 => by first | (exfalso; omega) | exact q2 _ h) (fun d1 d2 d3 => by first | (exfalso; omega) | exact q2 _ h) (fun d1 d2 d3 => by first | (exfalso; omega) | exact q2 _ h)
  · refine fin _ _ fun Q2 q2 => w9_after (by omega) a3 (fun d1 => by first | (exfalso; omega) | exact q2 _ h) (fun d1 d2 => by first | (exfalso; omega) | exact q2 _ h) (fun d1 d2 d3 => by first | (exfalso; omega) | exact q2 _ h) (fun d1 d2 d3 => by first | (exfalso; omega) | exact q2 _ h)
  · refine fin _ _ fun Q2 q2 => w9_after (by omega) a3 (fun d1 => by first | (exfalso; omega) | exact q2 _ h) (fun d1 d2 => by first | (exfalso; omega) | exact q2 _ h) (fun d1 d2 d3 => by first | (exfalso; omega) | exact q2 _ h) (fun d1 d2 d3 => by first | (exfalso; omega) | exact q2 _ h)
  · obtain ⟨J8, e8⟩ : ∃ J : cr_I, J = cr_up (cr_up (cr_up (cr_up I 189 (I 185 4).toNatClampNeg x1) 190 (I 185 4).toNatClampNeg x2) 191 (I 185 4).toNatClampNeg x3) 185 4 (I 185 4 + 1) := ⟨_, rfl⟩
    rw [← e8]
    have m1 : J8 200 43 = I 185 4 := by rw [e8]; simp (disch := omega) only [cr_up_e, cr_up_n]; exact pe
    have m2 : (J8 200 43).toInt = (I 185 4).toInt := by rw [e8]; simp (disch := omega) only [cr_up_e, cr_up_n]; exact pi
    have m3 : (J8 200 39).toInt = (I 185 1).toInt := by rw [e8]; simp (disch := omega) only [cr_up_e, cr_up_n]; exact pf
    have m4 : (J8 200 39 - 1).toInt = (J8 200 39).toInt - 1 := by rw [e8]; simp (disch := omega) only [cr_up_e, cr_up_n]; exact a3
    refine fin _ _ fun Q2 q2 => w9_after (by omega) m4 (fun d1 => by exfalso; omega) (fun d1 d2 => by exfalso; omega) (fun d1 d2 d3 => by exfalso; omega) (fun d1 d2 d3 => ?_)
    rw [m1]
    refine q2 _ ?_
    rw [e8]
    refine ⟨h0, (htx.fr fun b k hb => by unfold rl_tx at hb; simp (disch := omega) only [cr_up_e, cr_up_n]), (hmk.fr fun b k hb => by unfold rl_mk at hb; simp (disch := omega) only [cr_up_e, cr_up_n]), (htb.fr h0 fun b k hb => by unfold rl_tb rl_tm at hb; simp (disch := omega) only [cr_up_e, cr_up_n]), (hro.fr fun b k hb => by unfold rl_ro at hb; simp (disch := omega) only [cr_up_e, cr_up_n]), (hse.fr fun b k hb => by unfold rl_se at hb; simp (disch := omega) only [cr_up_e, cr_up_n]), (hpu.fr fun b k hb => by unfold rl_pu at hb; simp (disch := omega) only [cr_up_e, cr_up_n]), (hlo.fr fun b k hb => by unfold rl_lo at hb; simp (disch := omega) only [cr_up_e, cr_up_n]), (hhi.fr fun b k hb => by unfold rl_hi at hb; simp (disch := omega) only [cr_up_e, cr_up_n]), (hst.fr fun b k hb => by unfold rl_st at hb; simp (disch := omega) only [cr_up_e, cr_up_n]), (hjo.fr fun b k hb => by unfold rl_jo at hb; simp (disch := omega) only [cr_up_e, cr_up_n]), (hsp.fr fun b k hb => by unfold rl_sp at hb; simp (disch := omega) only [cr_up_e, cr_up_n]), ?_⟩
    have hp : (I 185 4).toNatClampNeg ≤ 11 := cr_n4 (by omega)
    have hs : (I 185 4 + 1).toInt = (I 185 4).toInt + 1 := cr_add1 (by omega)
    generalize (I 185 4).toNatClampNeg = p at hp
    obtain ⟨⟨w1, w2, w3, w4⟩, k6, k1, k39, k43, q27, q28, q29, q30, q31, q32⟩ := hck
    unfold cr_Rck cr_cw
    refine ⟨⟨fun c hc => ?_, fun e he => ?_, fun k hk => ?_, ?_⟩, ?_, ?_, ?_, ?_, funext fun k => ?_, funext fun k => ?_, funext fun k => ?_, funext fun k => ?_, funext fun k => ?_, funext fun k => ?_⟩
    · simp (disch := omega) only [cr_up_e, cr_up_n]
      exact w1 c hc
    · simp (disch := omega) only [cr_up_e, cr_up_n]
      exact w2 e he
    · by_cases g : k = p
      · simp (disch := omega) only [cr_up_e, cr_up_n]
        exact ⟨⟨by omega, by omega⟩, ⟨by omega, by omega⟩, c2⟩
      · simp (disch := omega) only [cr_up_e, cr_up_n]
        exact w3 k hk
    · simp (disch := omega) only [cr_up_e, cr_up_n]
      omega
    · simp (disch := omega) only [cr_up_e, cr_up_n]
      exact k6
    · simp (disch := omega) only [cr_up_e, cr_up_n]
      exact k1
    · simp (disch := omega) only [cr_up_e, cr_up_n]
      exact k39
    · simp (disch := omega) only [cr_up_e, cr_up_n]
    · simp (disch := omega) only [cr_up_e, cr_up_n]
      exact congrFun q27 k
    · simp (disch := omega) only [cr_up_e, cr_up_n]
      exact congrFun q28 k
    · simp (disch := omega) only [cr_up_e, cr_up_n]
      exact congrFun q29 k
    · by_cases e : k = p
      · simp (disch := omega) only [cr_up_e, cr_up_n]
      · simp (disch := omega) only [cr_up_e, cr_up_n]
        exact congrFun q30 k
    · by_cases e : k = p
      · simp (disch := omega) only [cr_up_e, cr_up_n]
      · simp (disch := omega) only [cr_up_e, cr_up_n]
        exact congrFun q31 k
    · by_cases e : k = p
      · simp (disch := omega) only [cr_up_e, cr_up_n]
      · simp (disch := omega) only [cr_up_e, cr_up_n]
        exact congrFun q32 k

theorem S_count {x1 : Int32} : cr_S T_yX8_count T_yX9_count [.int x1] := by
  intro τ I K h hk
  obtain ⟨h0, htx, hmk, htb, hro, hse, hpu, hlo, hhi, hst, hjo, hsp, hck⟩ := id h
  have fin : ∀ (r : Int32), (∀ Q2 : Int32 → cr_I → Prop, Q2 r I → t_yX9_count τ x1 I Q2) → K (some (.int r)) I (cr_rf τ) := fun r h9 => hk r I τ fun K2 k2 => ⟨τ, x1, fun r' J' => K2 (some (.int r')) J' (cr_rf τ), rfl, h0, rfl, h9 _ (k2 _ h), fun _ _ q => q⟩
  have ne0 : ∀ i : Nat, i < 7 → ∀ j : Nat, j < 7 → i ≠ j → ¬ Int32.ofNat i = Int32.ofNat j := by decide
  have ne : ∀ i j : Nat, i < 7 → j < 7 → i ≠ j → ¬ Int32.ofNat i = Int32.ofNat j := fun i j hi hj => ne0 i hi j hj
  have ti : ∀ i : Nat, i < 7 → ¬ ((Int32.ofNat i).toInt < 0 ∨ 6 < (Int32.ofNat i).toInt) := by decide
  refine ⟨τ, x1, fun r J => K (some (.int r)) J (cr_rf τ), rfl, h0, rfl, ?_, fun _ _ q => q⟩
  refine ⟨fun c => fin _ fun Q2 q2 => ⟨fun _ => q2, ?_⟩, ?_⟩
  · refine ⟨?_, ?_, ?_, ?_, ?_, ?_, ?_⟩ <;> (intro e; subst e; exact absurd c (ti _ (by decide)))
  · refine ⟨?_, ?_, ?_, ?_, ?_, ?_, ?_⟩ <;> (intro e; subst e; refine fin _ fun Q2 q2 => ?_; refine ⟨fun c => absurd c (ti _ (by decide)), ?_⟩)
    · refine ⟨fun _ => ?_, fun e => absurd e (ne _ _ (by decide) (by decide) (by decide)), fun e => absurd e (ne _ _ (by decide) (by decide) (by decide)), fun e => absurd e (ne _ _ (by decide) (by decide) (by decide)), fun e => absurd e (ne _ _ (by decide) (by decide) (by decide)), fun e => absurd e (ne _ _ (by decide) (by decide) (by decide)), fun e => absurd e (ne _ _ (by decide) (by decide) (by decide))⟩
      rw [hro.2.1]; exact q2
    · refine ⟨fun e => absurd e (ne _ _ (by decide) (by decide) (by decide)), fun _ => ?_, fun e => absurd e (ne _ _ (by decide) (by decide) (by decide)), fun e => absurd e (ne _ _ (by decide) (by decide) (by decide)), fun e => absurd e (ne _ _ (by decide) (by decide) (by decide)), fun e => absurd e (ne _ _ (by decide) (by decide) (by decide)), fun e => absurd e (ne _ _ (by decide) (by decide) (by decide))⟩
      rw [hpu.2.1]; exact q2
    · refine ⟨fun e => absurd e (ne _ _ (by decide) (by decide) (by decide)), fun e => absurd e (ne _ _ (by decide) (by decide) (by decide)), fun _ => ?_, fun e => absurd e (ne _ _ (by decide) (by decide) (by decide)), fun e => absurd e (ne _ _ (by decide) (by decide) (by decide)), fun e => absurd e (ne _ _ (by decide) (by decide) (by decide)), fun e => absurd e (ne _ _ (by decide) (by decide) (by decide))⟩
      rw [hhi.2.1]; exact q2
    · refine ⟨fun e => absurd e (ne _ _ (by decide) (by decide) (by decide)), fun e => absurd e (ne _ _ (by decide) (by decide) (by decide)), fun e => absurd e (ne _ _ (by decide) (by decide) (by decide)), fun _ => ?_, fun e => absurd e (ne _ _ (by decide) (by decide) (by decide)), fun e => absurd e (ne _ _ (by decide) (by decide) (by decide)), fun e => absurd e (ne _ _ (by decide) (by decide) (by decide))⟩
      rw [hjo.2.2.1]; exact q2
    · refine ⟨fun e => absurd e (ne _ _ (by decide) (by decide) (by decide)), fun e => absurd e (ne _ _ (by decide) (by decide) (by decide)), fun e => absurd e (ne _ _ (by decide) (by decide) (by decide)), fun e => absurd e (ne _ _ (by decide) (by decide) (by decide)), fun _ => ?_, fun e => absurd e (ne _ _ (by decide) (by decide) (by decide)), fun e => absurd e (ne _ _ (by decide) (by decide) (by decide))⟩
      rw [hck.2.2.2.1]; exact q2
    · refine ⟨fun e => absurd e (ne _ _ (by decide) (by decide) (by decide)), fun e => absurd e (ne _ _ (by decide) (by decide) (by decide)), fun e => absurd e (ne _ _ (by decide) (by decide) (by decide)), fun e => absurd e (ne _ _ (by decide) (by decide) (by decide)), fun e => absurd e (ne _ _ (by decide) (by decide) (by decide)), fun _ => ?_, fun e => absurd e (ne _ _ (by decide) (by decide) (by decide))⟩
      rw [hck.2.2.2.2.1]; exact q2
    · refine ⟨fun e => absurd e (ne _ _ (by decide) (by decide) (by decide)), fun e => absurd e (ne _ _ (by decide) (by decide) (by decide)), fun e => absurd e (ne _ _ (by decide) (by decide) (by decide)), fun e => absurd e (ne _ _ (by decide) (by decide) (by decide)), fun e => absurd e (ne _ _ (by decide) (by decide) (by decide)), fun e => absurd e (ne _ _ (by decide) (by decide) (by decide)), fun _ => ?_⟩
      rw [htx.2.1]; exact q2
theorem cr_min23 {τ : Nat → Nat} {x3 : Int32} {I : cr_I} (h : 0 ≤ x3.toInt ∧ x3.toInt ≤ 23) : (f_yJ9_min_7cf53 τ (23 : Int32) (x3 + (5 : Int32)) I).toInt = if x3.toInt + 5 < 23 then x3.toInt + 5 else 23 := by
  have z : (5 : Int32).toInt = 5 := rfl
  have z2 : (23 : Int32).toInt = 23 := rfl
  have e : (x3 + (5 : Int32)).toInt = x3.toInt + 5 := by rw [cr_add (by omega), z]
  unfold f_yJ9_min_7cf53
  simp only [cr_lt, e, z2]
  split
  · exact e
  · rfl
theorem w8_journey {τ : Nat → Nat} {I : cr_I} {x1 x2 x3 x4 x5 : Int32} {Q : Int32 → cr_I → Prop} (a1 : 0 ≤ (I 169 0).toInt ∧ (I 169 0).toInt ≤ 5) (f1 : ¬ ((0 ≤ x1.toInt ∧ x1.toInt ≤ 9) ∧ (x1.toInt < x2.toInt ∧ x2.toInt ≤ 9) ∧ (0 ≤ x5.toInt ∧ x5.toInt ≤ 3)) → Q (-2) I) (f2 : ((0 ≤ x1.toInt ∧ x1.toInt ≤ 9) ∧ (x1.toInt < x2.toInt ∧ x2.toInt ≤ 9) ∧ (0 ≤ x5.toInt ∧ x5.toInt ≤ 3)) → ¬ ((0 ≤ x3.toInt ∧ x3.toInt ≤ 23) ∧ (x3.toInt ≤ x4.toInt ∧ x4.toInt ≤ 23) ∧ x4.toInt ≤ x3.toInt + 5) → Q (-3) I) (f3 : ((0 ≤ x1.toInt ∧ x1.toInt ≤ 9) ∧ (x1.toInt < x2.toInt ∧ x2.toInt ≤ 9) ∧ (0 ≤ x5.toInt ∧ x5.toInt ≤ 3)) → ((0 ≤ x3.toInt ∧ x3.toInt ≤ 23) ∧ (x3.toInt ≤ x4.toInt ∧ x4.toInt ≤ 23) ∧ x4.toInt ≤ x3.toInt + 5) → ¬ ((I 169 0).toInt < 5) → Q (-5) I) (ok : ((0 ≤ x1.toInt ∧ x1.toInt ≤ 9) ∧ (x1.toInt < x2.toInt ∧ x2.toInt ≤ 9) ∧ (0 ≤ x5.toInt ∧ x5.toInt ≤ 3)) → ((0 ≤ x3.toInt ∧ x3.toInt ≤ 23) ∧ (x3.toInt ≤ x4.toInt ∧ x4.toInt ≤ 23) ∧ x4.toInt ≤ x3.toInt + 5) → ((I 169 0).toInt < 5) → Q (I 169 0) (cr_up (cr_up (cr_up (cr_up (cr_up (cr_up I 170 (I 169 0).toNatClampNeg x1) 171 (I 169 0).toNatClampNeg x2) 172 (I 169 0).toNatClampNeg x3) 173 (I 169 0).toNatClampNeg x4) 174 (I 169 0).toNatClampNeg x5) 169 0 (I 169 0 + 1))) : t_yX8_journey τ x1 x2 x3 x4 x5 I Q := by
  unfold t_yX8_journey
  simp only [f_yX8_isNoMake, cr_out0, zi_0, zi_3, zi_5, zi_9, zi_23, cr_lt]
  refine ⟨fun q => f1 (by omega), fun q1 => ?_⟩
  have e1 : (x1 + 1).toInt = x1.toInt + 1 := cr_add1 (by omega)
  rw [e1]
  refine ⟨fun q => f1 (by omega), fun q2 => ⟨fun q3 => ⟨fun q => f2 (by omega) (by omega), fun q4 => ?_⟩, fun q => f1 (by omega)⟩⟩
  rw [cr_min23 q4]
  have q5 : (x3.toInt ≤ x4.toInt ∧ x4.toInt ≤ (if x3.toInt + 5 < 23 then x3.toInt + 5 else 23)) ↔ ((x3.toInt ≤ x4.toInt ∧ x4.toInt ≤ 23) ∧ x4.toInt ≤ x3.toInt + 5) := by
    split <;> omega
  rw [q5]
  refine ⟨fun q6 => ⟨fun q7 => ?_, fun q7 => f3 (by omega) (by omega) (by omega)⟩, fun q6 => f2 (by omega) (by omega)⟩
  rintro _ rfl
  refine ⟨⟨a1.1, q7⟩, ?_⟩
  rintro _ rfl
  refine ⟨⟨a1.1, q7⟩, ?_⟩
  rintro _ rfl
  refine ⟨⟨a1.1, q7⟩, ?_⟩
  rintro _ rfl
  refine ⟨⟨a1.1, q7⟩, ?_⟩
  rintro _ rfl
  refine ⟨⟨a1.1, q7⟩, ?_⟩
  rintro _ rfl
  rintro _ rfl
  have u : cr_up (cr_up (cr_up (cr_up (cr_up I 170 (I 169 0).toNatClampNeg x1) 171 (I 169 0).toNatClampNeg x2) 172 (I 169 0).toNatClampNeg x3) 173 (I 169 0).toNatClampNeg x4) 174 (I 169 0).toNatClampNeg x5 169 0 = I 169 0 := by
    simp (disch := omega) only [cr_up_n]
  rw [u]
  exact ok (by omega) (by omega) (by omega)
theorem w9_journey {τ : Nat → Nat} {I : cr_I} {x1 x2 x3 x4 x5 : Int32} {Q : Int32 → cr_I → Prop} (a1 : 0 ≤ (I 200 34).toInt ∧ (I 200 34).toInt ≤ 5) (f1 : ¬ ((0 ≤ x1.toInt ∧ x1.toInt ≤ 9) ∧ (x1.toInt < x2.toInt ∧ x2.toInt ≤ 9) ∧ (0 ≤ x5.toInt ∧ x5.toInt ≤ 3)) → Q (-2) I) (f2 : ((0 ≤ x1.toInt ∧ x1.toInt ≤ 9) ∧ (x1.toInt < x2.toInt ∧ x2.toInt ≤ 9) ∧ (0 ≤ x5.toInt ∧ x5.toInt ≤ 3)) → ¬ ((0 ≤ x3.toInt ∧ x3.toInt ≤ 23) ∧ (x3.toInt ≤ x4.toInt ∧ x4.toInt ≤ 23) ∧ x4.toInt ≤ x3.toInt + 5) → Q (-3) I) (f3 : ((0 ≤ x1.toInt ∧ x1.toInt ≤ 9) ∧ (x1.toInt < x2.toInt ∧ x2.toInt ≤ 9) ∧ (0 ≤ x5.toInt ∧ x5.toInt ≤ 3)) → ((0 ≤ x3.toInt ∧ x3.toInt ≤ 23) ∧ (x3.toInt ≤ x4.toInt ∧ x4.toInt ≤ 23) ∧ x4.toInt ≤ x3.toInt + 5) → ¬ ((I 200 34).toInt < 5) → Q (-5) I) (ok : ((0 ≤ x1.toInt ∧ x1.toInt ≤ 9) ∧ (x1.toInt < x2.toInt ∧ x2.toInt ≤ 9) ∧ (0 ≤ x5.toInt ∧ x5.toInt ≤ 3)) → ((0 ≤ x3.toInt ∧ x3.toInt ≤ 23) ∧ (x3.toInt ≤ x4.toInt ∧ x4.toInt ≤ 23) ∧ x4.toInt ≤ x3.toInt + 5) → ((I 200 34).toInt < 5) → Q (I 200 34) (cr_up (cr_up (cr_up (cr_up (cr_up (cr_up I 221 (I 200 34).toNatClampNeg x1) 222 (I 200 34).toNatClampNeg x2) 223 (I 200 34).toNatClampNeg x3) 224 (I 200 34).toNatClampNeg x4) 225 (I 200 34).toNatClampNeg x5) 200 34 (I 200 34 + 1))) : t_yX9_journey τ x1 x2 x3 x4 x5 I Q := by
  have u : ∀ (b : Nat) (f : cr_I) (k : Nat) (v : Int32), b ≠ 200 → cr_up f b k v 200 34 = f 200 34 := fun _ _ _ _ h => cr_up_b (Ne.symm h)
  have s : I 200 34 + 1 - 1 = I 200 34 := by
    have e1 : (I 200 34 + 1).toInt = (I 200 34).toInt + 1 := cr_add1 (by omega)
    rw [cr_eq, cr_sub1 (by omega), e1]; omega
  unfold t_yX9_journey
  simp only [f_yX9_isMake, cr_in0, Int32.toInt_toInt64, Classical.not_not, zl_0, zl_3, zl_9, zl_23, @cr_eq (I 200 34) 5, zi_5, @cr_le (x4 - x3) 5]
  refine ⟨fun q => f1 (by omega), fun q1 => ?_⟩
  have e1 : (x1 + 1).toInt = x1.toInt + 1 := cr_add1 (by omega)
  rw [e1]
  refine ⟨fun q => f1 (by omega), fun q2 => ⟨fun q3 => ⟨fun q => f2 (by omega) (by omega), fun q4 => ⟨fun q => f2 (by omega) (by omega), fun q5 => ?_⟩⟩, fun q => f1 (by omega)⟩⟩
  have e2 : (x4 - x3).toInt = x4.toInt - x3.toInt := cr_sub (by omega)
  rw [e2]
  refine ⟨fun q6 => ⟨fun q7 => ?_, fun q7 => f3 (by omega) (by omega) (by omega)⟩, fun q6 => f2 (by omega) (by omega)⟩
  have q7 : (I 200 34).toInt < 5 := by omega
  refine ⟨⟨a1.1, q7⟩, ?_⟩
  intro J1 h1
  have g1 : J1 200 34 = I 200 34 := by rw [h1, u _ _ _ _ (by decide)]
  rw [g1]
  refine ⟨⟨a1.1, q7⟩, ?_⟩
  intro J2 h2
  have g2 : J2 200 34 = I 200 34 := by rw [h2, u _ _ _ _ (by decide), g1]
  rw [g2]
  refine ⟨⟨a1.1, q7⟩, ?_⟩
  intro J3 h3
  have g3 : J3 200 34 = I 200 34 := by rw [h3, u _ _ _ _ (by decide), g2]
  rw [g3]
  refine ⟨⟨a1.1, q7⟩, ?_⟩
  intro J4 h4
  have g4 : J4 200 34 = I 200 34 := by rw [h4, u _ _ _ _ (by decide), g3]
  rw [g4]
  refine ⟨⟨a1.1, q7⟩, ?_⟩
  intro J5 h5
  have g5 : J5 200 34 = I 200 34 := by rw [h5, u _ _ _ _ (by decide), g4]
  rw [g5]
  intro J6 h6
  have g6 : J6 200 34 = I 200 34 + 1 := by rw [h6, cr_up_s]
  rw [g6, s, h6, h5, h4, h3, h2, h1]
  exact ok (by omega) (by omega) q7
theorem S_journey {x1 x2 x3 x4 x5 : Int32} : cr_S T_yX8_journey T_yX9_journey [.int x1, .int x2, .int x3, .int x4, .int x5] := by
  intro τ I K h hk
  obtain ⟨h0, htx, hmk, htb, hro, hse, hpu, hlo, hhi, hst, hjo, hsp, hck⟩ := id h
  have fin : ∀ (r : Int32) (J : cr_I), (∀ Q2 : Int32 → cr_I → Prop, (∀ I2, cr_Rel τ I2 → Q2 r I2) → t_yX9_journey τ x1 x2 x3 x4 x5 J Q2) → K (some (.int r)) J (cr_rf τ) := fun r J h9 => hk r J τ fun K2 k2 => ⟨τ, x1, x2, x3, x4, x5, fun r' J' => K2 (some (.int r')) J' (cr_rf τ), rfl, h0, rfl, h9 _ k2, fun _ _ q => q⟩
  refine ⟨τ, x1, x2, x3, x4, x5, fun r J => K (some (.int r)) J (cr_rf τ), rfl, h0, rfl, ?_, fun _ _ q => q⟩
  have pe := hjo.2.2.1
  have pi : (I 200 34).toInt = (I 169 0).toInt := by rw [pe]
  have a1 := hjo.1.1
  refine w8_journey a1 (fun c1 => ?_) (fun c1 c2 => ?_) (fun c1 c2 c3 => ?_) (fun c1 c2 c3 => ?_)
  · refine fin _ _ fun Q2 q2 => w9_journey (by omega) (fun d1 => by first | (exfalso; omega) | exact q2 _ h) (fun d1 d2 => by first | (exfalso; omega) | exact q2 _ h) (fun d1 d2 d3 => by first | (exfalso; omega) | exact q2 _ h) (fun d1 d2 d3 => by first | (exfalso; omega) | exact q2 _ h)
  · refine fin _ _ fun Q2 q2 => w9_journey (by omega) (fun d1 => by first | (exfalso; omega) | exact q2 _ h) (fun d1 d2 => by first | (exfalso; omega) | exact q2 _ h) (fun d1 d2 d3 => by first | (exfalso; omega) | exact q2 _ h) (fun d1 d2 d3 => by first | (exfalso; omega) | exact q2 _ h)
  · refine fin _ _ fun Q2 q2 => w9_journey (by omega) (fun d1 => by first | (exfalso; omega) | exact q2 _ h) (fun d1 d2 => by first | (exfalso; omega) | exact q2 _ h) (fun d1 d2 d3 => by first | (exfalso; omega) | exact q2 _ h) (fun d1 d2 d3 => by first | (exfalso; omega) | exact q2 _ h)
  · obtain ⟨J8, e8⟩ : ∃ J : cr_I, J = cr_up (cr_up (cr_up (cr_up (cr_up (cr_up I 170 (I 169 0).toNatClampNeg x1) 171 (I 169 0).toNatClampNeg x2) 172 (I 169 0).toNatClampNeg x3) 173 (I 169 0).toNatClampNeg x4) 174 (I 169 0).toNatClampNeg x5) 169 0 (I 169 0 + 1) := ⟨_, rfl⟩
    rw [← e8]
    have m1 : J8 200 34 = I 169 0 := by rw [e8]; simp (disch := omega) only [cr_up_e, cr_up_n]; exact pe
    have m2 : (J8 200 34).toInt = (I 169 0).toInt := by rw [e8]; simp (disch := omega) only [cr_up_e, cr_up_n]; exact pi
    refine fin _ _ fun Q2 q2 => w9_journey (by omega) (fun d1 => by exfalso; omega) (fun d1 d2 => by exfalso; omega) (fun d1 d2 d3 => by exfalso; omega) (fun d1 d2 d3 => ?_)
    rw [m1]
    refine q2 _ ?_
    rw [e8]
    refine ⟨h0, (htx.fr fun b k hb => by unfold rl_tx at hb; simp (disch := omega) only [cr_up_e, cr_up_n]), (hmk.fr fun b k hb => by unfold rl_mk at hb; simp (disch := omega) only [cr_up_e, cr_up_n]), (htb.fr h0 fun b k hb => by unfold rl_tb rl_tm at hb; simp (disch := omega) only [cr_up_e, cr_up_n]), (hro.fr fun b k hb => by unfold rl_ro at hb; simp (disch := omega) only [cr_up_e, cr_up_n]), (hse.fr fun b k hb => by unfold rl_se at hb; simp (disch := omega) only [cr_up_e, cr_up_n]), (hpu.fr fun b k hb => by unfold rl_pu at hb; simp (disch := omega) only [cr_up_e, cr_up_n]), (hlo.fr fun b k hb => by unfold rl_lo at hb; simp (disch := omega) only [cr_up_e, cr_up_n]), (hhi.fr fun b k hb => by unfold rl_hi at hb; simp (disch := omega) only [cr_up_e, cr_up_n]), (hst.fr fun b k hb => by unfold rl_st at hb; simp (disch := omega) only [cr_up_e, cr_up_n]), ?_, (hsp.fr fun b k hb => by unfold rl_sp at hb; simp (disch := omega) only [cr_up_e, cr_up_n]), (hck.fr fun b k hb => by unfold rl_ck at hb; simp (disch := omega) only [cr_up_e, cr_up_n])⟩
    have hp : (I 169 0).toNatClampNeg ≤ 4 := cr_n4 (by omega)
    have hs : (I 169 0 + 1).toInt = (I 169 0).toInt + 1 := cr_add1 (by omega)
    have hn : (I 169 0 + 1).toNatClampNeg = (I 169 0).toNatClampNeg + 1 := by
      show (I 169 0 + 1).toInt.toNat = (I 169 0).toInt.toNat + 1
      omega
    obtain ⟨⟨j1, j2, j3⟩, j4, -, j5, j6, j7, j8, j9⟩ := hjo
    unfold cr_jn at j2 j3 j4
    unfold cr_Rjo cr_jok cr_jw cr_hw cr_jn
    generalize hpp : (I 169 0).toNatClampNeg = p at *
    have z1 : ∀ M : cr_I, M 169 0 = I 169 0 + 1 → (M 169 0).toNatClampNeg = p + 1 := fun M e => by rw [e]; exact hn
    refine ⟨⟨?_, ?_, fun j hj => ?_⟩, fun j hj => ?_, ?_, funext fun k => ?_, funext fun k => ?_, funext fun k => ?_, funext fun k => ?_, funext fun k => ?_⟩
    · simp (disch := omega) only [cr_up_e, cr_up_n]
      omega
    · simp (disch := omega) only [cr_up_e, cr_up_n]
      omega
    · rw [z1 _ (by simp (disch := omega) only [cr_up_e, cr_up_n])] at hj
      by_cases e : j = p
      · simp (disch := omega) only [cr_up_e, cr_up_n]
        exact ⟨⟨c1.1.1, c1.2.1.1, c1.2.1.2⟩, c1.2.2.1, by omega⟩
      · simp (disch := omega) only [cr_up_e, cr_up_n]
        exact j3 j (by omega)
    · rw [z1 _ (by simp (disch := omega) only [cr_up_e, cr_up_n])] at hj
      by_cases e : j = p
      · simp (disch := omega) only [cr_up_e, cr_up_n]
        exact ⟨c2.1.1, c2.2.1.1, c2.2.1.2, c2.2.2⟩
      · simp (disch := omega) only [cr_up_e, cr_up_n]
        exact j4 j (by omega)
    · simp (disch := omega) only [cr_up_e, cr_up_n]
    · by_cases e : k = p
      · simp (disch := omega) only [cr_up_e, cr_up_n]
      · simp (disch := omega) only [cr_up_e, cr_up_n]
        exact congrFun j5 k
    · by_cases e : k = p
      · simp (disch := omega) only [cr_up_e, cr_up_n]
      · simp (disch := omega) only [cr_up_e, cr_up_n]
        exact congrFun j6 k
    · by_cases e : k = p
      · simp (disch := omega) only [cr_up_e, cr_up_n]
      · simp (disch := omega) only [cr_up_e, cr_up_n]
        exact congrFun j7 k
    · by_cases e : k = p
      · simp (disch := omega) only [cr_up_e, cr_up_n]
      · simp (disch := omega) only [cr_up_e, cr_up_n]
        exact congrFun j8 k
    · by_cases e : k = p
      · simp (disch := omega) only [cr_up_e, cr_up_n]
      · simp (disch := omega) only [cr_up_e, cr_up_n]
        exact congrFun j9 k

