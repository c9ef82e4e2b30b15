/-! THE CALLS THAT MAKE A RUN -/
theorem cr_Rel.run8 {τ : Nat → Nat} {I J : cr_I} (h : cr_Rel τ I) (f : cr_fr 137 168 I J) : cr_Rel τ J := h.fr fun b k hb => f b k (by unfold cr_rl rl_tx rl_mk rl_tb rl_tm rl_ro rl_se rl_pu rl_lo rl_hi rl_st rl_jo rl_sp rl_ck at hb; omega)
theorem cr_Rel.run9 {τ : Nat → Nat} {I J : cr_I} (h : cr_Rel τ I) (f : cr_F cr_PRm I J) : cr_Rel τ J := h.fr fun b k hb => f b k (by unfold cr_PRm; unfold cr_rl rl_tx rl_mk rl_tb rl_tm rl_ro rl_se rl_pu rl_lo rl_hi rl_st rl_jo rl_sp rl_ck at hb; omega)
theorem cr_run_eq {τ : Nat → Nat} {I J : cr_I} (h : cr_Rel τ I) (f : cr_fr 137 168 I J) : cr_mpar J = cr_cpar τ I ∧ J 214 0 = I 130 0 ∧ J 214 2 = I 130 2 ∧ J 200 19 = I 27 4 ∧ J 214 1 = I 130 1 ∧ cr_mn0 J = cr_cn0 I := by
  have hJ := h.run8 f
  have e := hJ.2.2.2.2.2.1.1
  have g : J 130 = I 130 := funext fun k => f 130 k (by omega)
  refine ⟨hJ.par.symm.trans (cr_low.par h.1 f.lo h.rok), by rw [e, g], by rw [e, g], ?_, by rw [e, g], ?_⟩
  · rw [show J 200 19 = J 27 4 from hJ.2.2.2.2.2.2.2.1]
    exact f 27 4 (by omega)
  · unfold cr_mn0 cr_cn0
    rw [hJ.2.2.2.2.1.2.1, f 27 1 (by omega)]
theorem cr_Rel.ctld {τ : Nat → Nat} {I : cr_I} (h : cr_Rel τ I) : cr_ctld τ I := ⟨h.rok, h.2.2.2.2.2.1.2.2.2.1⟩
theorem cr_Rel.mtld {τ : Nat → Nat} {I : cr_I} (h : cr_Rel τ I) : cr_mtld I := ⟨h.mok, by rw [h.2.2.2.2.2.1.1]; exact h.2.2.2.2.2.1.2.2.2.1⟩
theorem cr_Rel.cn {τ : Nat → Nat} {I : cr_I} (h : cr_Rel τ I) : (I 27 1).toInt = cr_cn0 I ∧ (1 ≤ cr_cn0 I ∧ cr_cn0 I ≤ 6) ∧ (I 27 1 - 1).toInt = (I 27 1).toInt - 1 ∧ (I 200 13).toInt = (I 27 1).toInt ∧ (I 200 13 - 1).toInt = (I 27 1).toInt - 1 := by
  have a : 1 ≤ (I 27 1).toInt ∧ (I 27 1).toInt ≤ 6 := h.2.2.2.2.1.1
  have e : cr_cn0 I = (I 27 1).toInt.toNat := rfl
  have b : I 200 13 = I 27 1 := h.2.2.2.2.1.2.1
  refine ⟨by omega, by omega, cr_sub1 (by omega), by rw [b], ?_⟩
  rw [b]
  exact cr_sub1 (by omega)
theorem S_touch {x1 : Int32} : cr_S T_yX8_touch T_yX9_touch [.int x1] := by
  intro τ I K h hk
  have h0 := h.1
  refine ⟨τ, x1, fun r J => K (some (.int r)) J (cr_rf τ), rfl, h0, rfl, ?_, fun _ _ q => q⟩
  unfold t_yX8_touch
  simp only [cr_out0, zi_0, zi_1]
  refine ⟨fun c => cw_told h.ctld fun J f hv => ?_, fun c => hk _ _ τ fun K2 k2 => ⟨τ, x1, fun r J => K2 (some (.int r)) J (cr_rf τ), rfl, h0, rfl, ?_, fun _ _ q => q⟩⟩
  · have hJ := h.run8 f
    obtain ⟨ep, e0, e2, e19, e1, en⟩ := cr_run_eq h f
    have tc := hv.2.2.2.1
    have t9 : ∀ (r : Int32) (K2 : cr_K), (x1 = 0 → r = J 137 6) → (¬ x1 = 0 → r = J 137 7) → (∀ I2, cr_Rel τ I2 → K2 (some (.int r)) I2 (cr_rf τ)) → T_yX9_touch [.ref 200, .int x1] J (cr_rf τ) K2 := by
      intro r K2 r1 r2 k2
      refine ⟨τ, x1, fun r J => K2 (some (.int r)) J (cr_rf τ), rfl, h0, rfl, ?_, fun _ _ q => q⟩
      unfold t_yX9_touch
      simp only [cr_in0, Int32.toInt_toInt64, Classical.not_not, zl_0, zl_1]
      refine ⟨fun _ => cw_mtold hJ.mtld fun J2 f2 hv2 => ?_, fun d => absurd c d⟩
      rw [ep, e0, e2, e19] at hv2
      have tc2 := hv2.2.2.2.1.trans tc.symm
      have hJ2 := hJ.run9 f2
      refine ⟨fun d => ?_, fun d => ?_⟩
      · rw [show J2 200 56 = J 137 7 from congrArg Prod.snd tc2, ← r2 d]
        exact k2 _ hJ2
      · rw [show J2 200 55 = J 137 6 from congrArg Prod.fst tc2, ← r1 d]
        exact k2 _ hJ2
    exact ⟨fun d => hk _ _ τ fun K2 k2 => t9 _ K2 (fun z => absurd z d) (fun _ => rfl) k2, fun d => hk _ _ τ fun K2 k2 => t9 _ K2 (fun _ => rfl) (fun z => absurd d z) k2⟩
  · unfold t_yX9_touch
    simp only [cr_in0, Int32.toInt_toInt64, Classical.not_not, zl_0, zl_1]
    exact ⟨fun d => absurd d c, fun _ => k2 _ h⟩
/-! at -/
def cr_atS (p : cr_par) (g : Int32) (dl : Nat) (lost : Int32) (i t v : Nat) : Int32 := if v = 0 then rS (cr_rs p g dl lost (t + 1)) i else if v = 1 then (if i = 0 then -1 else rG (cr_rs p g dl lost (t + 1)) i) else if v = 2 then rP (cr_rs p g dl lost (t + 1)) i else if v = 3 then cr_Wt p dl lost t (cr_rs p g dl lost t) i else if v = 4 then (if i = 0 then 0 else cr_Ht dl lost t (cr_rs p g dl lost t)) else (if i = 0 then 99 else cr_Ot dl lost t)
theorem w8_at {τ : Nat → Nat} {I : cr_I} {x1 x2 x3 : Int32} {Q : Int32 → cr_I → Prop} (h : cr_Rel τ I) (f1 : ¬ ((0 ≤ x1.toInt ∧ x1.toInt < (I 27 1).toInt) ∧ (0 ≤ x2.toInt ∧ x2.toInt ≤ 31) ∧ (0 ≤ x3.toInt ∧ x3.toInt ≤ 5)) → Q (-2147483648) I) (ok : ((0 ≤ x1.toInt ∧ x1.toInt < (I 27 1).toInt) ∧ (0 ≤ x2.toInt ∧ x2.toInt ≤ 31) ∧ (0 ≤ x3.toInt ∧ x3.toInt ≤ 5)) → ∀ J, cr_fr 137 168 I J → Q (cr_atS (cr_cpar τ I) (I 130 0) (cr_dl (I 130 2)) (I 27 4) x1.toNatClampNeg x2.toNatClampNeg x3.toNatClampNeg) J) : t_yX8_at τ x1 x2 x3 I Q := by
  obtain ⟨cn, cb, a1, -, -⟩ := h.cn
  unfold t_yX8_at
  simp only [f_yX8_isNoLorry, cr_out0, a1, zi_0, zi_31, zi_5]
  refine ⟨fun c => f1 (by omega), fun c1 => ⟨fun c => f1 (by omega), fun c2 => ⟨fun c3 => cw_told h.ctld fun J f hv => ?_, fun c => f1 (by omega)⟩⟩⟩
  intro v1 ev
  have ok := ok ⟨by omega, c2, c3⟩ J f
  obtain ⟨ex1, b1⟩ := cr_ofI (B := 5) c1.1 (by omega)
  obtain ⟨ex2, b2⟩ := cr_ofI (B := 31) c2.1 c2.2
  have i1 : (x2 + 1).toInt = x2.toInt + 1 := cr_add1 (by omega)
  have i2 : (x2 + 1).toNatClampNeg = x2.toNatClampNeg + 1 := by
    show (x2 + 1).toInt.toNat = x2.toInt.toNat + 1
    omega
  have ln : x1.toNatClampNeg < pn (cr_cpar τ I) := by
    show x1.toNatClampNeg < cr_cn0 I
    have : x1.toNatClampNeg = x1.toInt.toNat := rfl
    omega
  obtain ⟨g1, g2, g3⟩ := hv.1 x1.toNatClampNeg (x2.toNatClampNeg + 1) ln (by omega)
  have g4 := hv.2.1 x1.toNatClampNeg x2.toNatClampNeg ln (by omega)
  obtain ⟨g5, g6⟩ := hv.2.2.1 x2.toNatClampNeg (by omega)
  have z0 : x1.toNatClampNeg = 0 ↔ x1 = 0 := by
    rw [cr_eq]
    show x1.toInt.toNat = 0 ↔ x1.toInt = 0
    omega
  have v0 : v1 = 0 ↔ ¬ x1 = 0 := by
    rw [ev]
    by_cases e : x1 = 0
    · rw [if_pos e]; exact ⟨fun q => absurd q (by decide), fun q => absurd e q⟩
    · rw [if_neg e]; exact ⟨fun _ => e, fun _ => rfl⟩
  rw [i2, g1, g3, g4, g5, g6]
  have r6 : 0 ≤ x1.toInt ∧ x1.toInt < 6 := by omega
  have r33 : 0 ≤ (x2 + 1).toInt ∧ (x2 + 1).toInt < 33 := by omega
  have r32 : 0 ≤ x2.toInt ∧ x2.toInt < 32 := by omega
  refine ⟨fun q => ?_, fun q => ?_, fun q => ?_, fun q => ?_, fun q => ?_, fun q => ?_⟩
  · have e3 : x3.toNatClampNeg = 5 := by show x3.toInt.toNat = 5; omega
    rw [e3] at ok
    refine ⟨fun q1 => ⟨r32, ?_⟩, fun q1 => ?_⟩
    · rw [show cr_atS _ _ _ _ _ _ 5 = if x1.toNatClampNeg = 0 then 99 else _ from rfl, if_neg (fun z => (v0.mp q1) (z0.mp z))] at ok
      exact ok
    · rw [show cr_atS _ _ _ _ _ _ 5 = if x1.toNatClampNeg = 0 then 99 else _ from rfl, if_pos (z0.mpr (Classical.byContradiction fun z => q1 (v0.mpr z)))] at ok
      exact ok
  · rw [q] at ok
    exact ⟨r6, r33, ok⟩
  · rw [q] at ok
    refine ⟨fun q1 => ⟨r6, r33, ?_⟩, fun q1 => ?_⟩
    · have n0 : ¬ x1.toNatClampNeg = 0 := fun z => (v0.mp q1) (z0.mp z)
      rw [g2 (by omega)]
      rw [show cr_atS _ _ _ _ _ _ (Int32.ofNat 1).toNatClampNeg = if x1.toNatClampNeg = 0 then -1 else _ from rfl, if_neg n0] at ok
      exact ok
    · rw [show cr_atS _ _ _ _ _ _ (Int32.ofNat 1).toNatClampNeg = if x1.toNatClampNeg = 0 then -1 else _ from rfl, if_pos (z0.mpr (Classical.byContradiction fun z => q1 (v0.mpr z)))] at ok
      exact ok
  · rw [q] at ok
    exact ⟨r6, r33, ok⟩
  · rw [q] at ok
    exact ⟨r6, r32, ok⟩
  · rw [q] at ok
    refine ⟨fun q1 => ⟨r32, ?_⟩, fun q1 => ?_⟩
    · rw [show cr_atS _ _ _ _ _ _ (Int32.ofNat 4).toNatClampNeg = if x1.toNatClampNeg = 0 then 0 else _ from rfl, if_neg (fun z => (v0.mp q1) (z0.mp z))] at ok
      exact ok
    · rw [show cr_atS _ _ _ _ _ _ (Int32.ofNat 4).toNatClampNeg = if x1.toNatClampNeg = 0 then 0 else _ from rfl, if_pos (z0.mpr (Classical.byContradiction fun z => q1 (v0.mpr z)))] at ok
      exact ok
theorem cr_six32 {x1 x2 : Int32} (h1 : 0 ≤ x1.toInt ∧ x1.toInt ≤ 31) (h2 : 0 ≤ x2.toInt ∧ x2.toInt ≤ 5) : (0 ≤ (((6 : Int32) * x1) + x2).toInt ∧ (((6 : Int32) * x1) + x2).toInt < 192) ∧ (((6 : Int32) * x1) + x2).toNatClampNeg = 6 * x1.toNatClampNeg + x2.toNatClampNeg := by
  have z : (6 : Int32).toInt = 6 := rfl
  have m1 : ((6 : Int32) * x1).toInt = 6 * x1.toInt := by rw [cr_mul (by rw [z]; omega), z]
  have m2 : (((6 : Int32) * x1) + x2).toInt = 6 * x1.toInt + x2.toInt := by rw [cr_add (by rw [m1]; omega), m1]
  refine ⟨by omega, ?_⟩
  show (((6 : Int32) * x1) + x2).toInt.toNat = 6 * x1.toInt.toNat + x2.toInt.toNat
  omega
theorem w9_at {τ : Nat → Nat} {I : cr_I} {x1 x2 x3 : Int32} {Q : Int32 → cr_I → Prop} (h : cr_Rel τ I) (f1 : ¬ ((0 ≤ x1.toInt ∧ x1.toInt < (I 27 1).toInt) ∧ (0 ≤ x2.toInt ∧ x2.toInt ≤ 31) ∧ (0 ≤ x3.toInt ∧ x3.toInt ≤ 5)) → Q (-2147483648) I) (ok : ((0 ≤ x1.toInt ∧ x1.toInt < (I 27 1).toInt) ∧ (0 ≤ x2.toInt ∧ x2.toInt ≤ 31) ∧ (0 ≤ x3.toInt ∧ x3.toInt ≤ 5)) → ∀ J, cr_F cr_PRm I J → Q (cr_atS (cr_mpar I) (I 214 0) (cr_dl (I 214 2)) (I 200 19) x1.toNatClampNeg x2.toNatClampNeg x3.toNatClampNeg) J) : t_yX9_at τ x1 x2 x3 I Q := by
  obtain ⟨cn, cb, -, a0, a1⟩ := h.cn
  unfold t_yX9_at
  simp only [f_yX9_isLorry, cr_in0, Int32.toInt_toInt64, Classical.not_not, a1, zl_0, zl_31, zl_5]
  refine ⟨fun c => f1 (by omega), fun c1 => ⟨fun c => f1 (by omega), fun c2 => ⟨fun c3 => cw_mtold h.mtld fun J f hv => ?_, fun c => f1 (by omega)⟩⟩⟩
  intro v1 ev
  have ok := ok ⟨by omega, c2, c3⟩ J f
  obtain ⟨r, er⟩ := cr_six32 (x1 := x2) (x2 := x1) c2 (by omega)
  rw [← ev] at r er
  obtain ⟨ex1, b1⟩ := cr_ofI (B := 5) c1.1 (by omega)
  obtain ⟨ex2, b2⟩ := cr_ofI (B := 31) c2.1 c2.2
  have ln : x1.toNatClampNeg < pn (cr_mpar I) := by
    rw [← h.par]
    show x1.toNatClampNeg < cr_cn0 I
    have : x1.toNatClampNeg = x1.toInt.toNat := rfl
    omega
  obtain ⟨g4, g1, g2, g3, g5, g6⟩ := hv.2.1 x1.toNatClampNeg x2.toNatClampNeg ln (by omega)
  have z0 : x1.toNatClampNeg = 0 ↔ x1 = 0 := by
    rw [cr_eq]
    show x1.toInt.toNat = 0 ↔ x1.toInt = 0
    omega
  rw [er, g1, g3, g4, g5, g6]
  have sv : ∀ v : Nat, v < 6 → x3 = Int32.ofNat v → x3.toNatClampNeg = v := fun v hv e => by
    rw [e]
    have : ∀ v, v < 6 → (Int32.ofNat v).toNatClampNeg = v := by decide
    exact this v hv
  refine ⟨fun n0 => ⟨fun n1 => ⟨fun n2 => ⟨fun n3 => ⟨fun n4 => ⟨r, ?_⟩, fun q => ⟨r, ?_⟩⟩, fun q => ⟨r, ?_⟩⟩, fun q => ⟨r, ?_⟩⟩, fun q => ⟨fun q1 => ⟨r, ?_⟩, fun q1 => ?_⟩⟩, fun q => ⟨r, ?_⟩⟩
  · have e5 : x3.toNatClampNeg = 5 := by
      rw [cr_eq] at n0 n1 n2 n3 n4
      simp only [zi_0, zi_1, zi_2, zi_3, zi_4] at n0 n1 n2 n3 n4
      show x3.toInt.toNat = 5
      omega
    rw [e5] at ok
    exact ok
  · rw [sv 4 (by decide) q] at ok
    exact ok
  · rw [sv 3 (by decide) q] at ok
    exact ok
  · rw [sv 2 (by decide) q] at ok
    exact ok
  · rw [sv 1 (by decide) q] at ok
    have n0 : ¬ x1.toNatClampNeg = 0 := fun z => q1 (z0.mp z)
    rw [g2 (by omega)]
    rw [show cr_atS _ _ _ _ _ _ 1 = if x1.toNatClampNeg = 0 then -1 else _ from rfl, if_neg n0] at ok
    exact ok
  · rw [sv 1 (by decide) q] at ok
    rw [show cr_atS _ _ _ _ _ _ 1 = if x1.toNatClampNeg = 0 then -1 else _ from rfl, if_pos (z0.mpr q1)] at ok
    exact ok
  · rw [sv 0 (by decide) q] at ok
    exact ok
theorem S_at {x1 x2 x3 : Int32} : cr_S T_yX8_at T_yX9_at [.int x1, .int x2, .int x3] := by
  intro τ I K h hk
  have h0 := h.1
  refine ⟨τ, x1, x2, x3, fun r J => K (some (.int r)) J (cr_rf τ), rfl, h0, rfl, ?_, fun _ _ q => q⟩
  refine w8_at h (fun c => hk _ _ τ fun K2 k2 => ⟨τ, x1, x2, x3, fun r J => K2 (some (.int r)) J (cr_rf τ), rfl, h0, rfl, ?_, fun _ _ q => q⟩) (fun c J f => hk _ _ τ fun K2 k2 => ⟨τ, x1, x2, x3, fun r J => K2 (some (.int r)) J (cr_rf τ), rfl, h0, rfl, ?_, fun _ _ q => q⟩)
  · exact w9_at h (fun _ => k2 _ h) (fun d => absurd d c)
  · have hJ := h.run8 f
    obtain ⟨ep, e0, e2, e19, e1, en⟩ := cr_run_eq h f
    have e27 : J 27 1 = I 27 1 := f 27 1 (by omega)
    refine w9_at hJ (fun d => absurd (by rw [e27]; exact c) d) (fun d J2 f2 => ?_)
    rw [ep, e0, e2, e19]
    exact k2 _ (hJ.run9 f2)
/-! the least gap -/
theorem cr_minF_sh {v : Int32} {a : Nat → Int32} (h : (a 0).toInt < v.toInt) : ∀ n, cr_minF v a (n + 1) = cr_minF (a 0) (fun k => a (k + 1)) n
  | 0 => by
    rw [cr_minF, cr_minF, cr_minF, if_pos (by rw [cr_lt]; exact h)]
  | n + 1 => by
    rw [cr_minF, cr_minF_sh h n]
    rfl
theorem cr_gap1 {p : cr_par} {g : Int32} {dl : Nat} {lost : Int32} {i : Nat} (hp : cr_pok p) (hg : 1 ≤ g.toInt ∧ g.toInt ≤ 99) : (rG (cr_rs p g dl lost 1) i).toInt < (268435456 : Int32).toInt := by
  have s1 := cr_rs_S (g := g) (dl := dl) (lost := lost) hp 1 (i - 1)
  have s2 := cr_rs_S (g := g) (dl := dl) (lost := lost) hp 1 i
  have e : rG (cr_rs p g dl lost 1) i = g + rS (cr_rs p g dl lost 1) (i - 1) - rS (cr_rs p g dl lost 1) i := rfl
  have z : (268435456 : Int32).toInt = 268435456 := rfl
  have a1 : (g + rS (cr_rs p g dl lost 1) (i - 1)).toInt = g.toInt + (rS (cr_rs p g dl lost 1) (i - 1)).toInt := cr_add (by omega)
  rw [e, cr_sub (by rw [a1]; omega), a1, z]
  omega
theorem S_least {x1 : Int32} : cr_S T_yX8_least T_yX9_least [.int x1] := by
  intro τ I K h hk
  have h0 := h.1
  obtain ⟨cn, cb, a1, b0, b1⟩ := h.cn
  refine ⟨τ, x1, fun r J => K (some (.int r)) J (cr_rf τ), rfl, h0, rfl, ?_, fun _ _ q => q⟩
  unfold t_yX8_least
  simp only [f_yX8_isNoFollower, cr_out0, a1, zi_1]
  refine ⟨fun c => cw_told h.ctld fun J f hv => ?_, fun c => hk _ _ τ fun K2 k2 => ⟨τ, x1, rfl, h0, rfl, h.mtld, fun r J q => ?_⟩⟩
  · have hJ := h.run8 f
    obtain ⟨ep, e0, e2, e19, e1, en⟩ := cr_run_eq h f
    refine ⟨⟨by omega, by omega⟩, hk _ _ τ fun K2 k2 => ⟨τ, x1, rfl, h0, rfl, hJ.mtld, fun r J2 q => ?_⟩⟩
    unfold q_yX9_least at q
    rw [ep, e0, e2, e19, en] at q
    rcases q with ⟨d, -⟩ | ⟨-, f2, er⟩
    · exact absurd (by omega) d
    · have ln : x1.toNatClampNeg < pn (cr_cpar τ I) := by
        show x1.toNatClampNeg < cr_cn0 I
        have : x1.toNatClampNeg = x1.toInt.toNat := rfl
        omega
      have l1 : 1 ≤ x1.toNatClampNeg := by
        have : x1.toNatClampNeg = x1.toInt.toNat := rfl
        omega
      have ee : f_yX4_leastGap τ x1 J = r := by
        have sh := cr_minF_sh (v := 268435456) (a := fun k => rG (cr_rs (cr_cpar τ I) (I 130 0) (cr_dl (I 130 2)) (I 27 4) (k + 1)) x1.toNatClampNeg) (cr_gap1 h.rok.pok h.2.2.2.2.2.1.2.1) 31
        rw [er]
        refine Eq.trans ?_ sh.symm
        unfold f_yX4_leastGap
        rw [(hv.1 _ 1 ln (by omega)).2.1 l1]
        exact cr_minF_c 31 fun k hk => (hv.1 _ (k + 2) ln (by omega)).2.1 l1
      rw [ee] at k2
      exact k2 _ (hJ.run9 f2)
  · unfold q_yX9_least at q
    have em : cr_mn0 I = cr_cn0 I := by unfold cr_mn0 cr_cn0; rw [h.2.2.2.2.1.2.1]
    rw [em] at q
    rcases q with ⟨-, rfl, rfl⟩ | ⟨d, -⟩
    · exact k2 _ h
    · exact absurd (by omega) c
theorem S_dip {x1 : Int32} : cr_S T_yX8_dip T_yX9_dip [.int x1] := by
  intro τ I K h hk
  have h0 := h.1
  obtain ⟨cn, cb, a1, b0, b1⟩ := h.cn
  refine ⟨τ, x1, fun r J => K (some (.int r)) J (cr_rf τ), rfl, h0, rfl, ?_, fun _ _ q => q⟩
  unfold t_yX8_dip
  simp only [f_yX8_isNoLorry, cr_out0, a1, zi_0]
  refine ⟨fun c => cw_told h.ctld fun J f hv => ?_, fun c => hk _ _ τ fun K2 k2 => ⟨τ, x1, fun r J => K2 (some (.int r)) J (cr_rf τ), rfl, h0, rfl, ?_, fun _ _ q => q⟩⟩
  · have hJ := h.run8 f
    obtain ⟨ep, e0, e2, e19, e1, en⟩ := cr_run_eq h f
    obtain ⟨-, -, -, -, b1'⟩ := hJ.cn
    have e27 : J 27 1 = I 27 1 := f 27 1 (by omega)
    obtain ⟨ex1, b5⟩ := cr_ofI (B := 5) c.1 (by omega)
    have ln : x1.toNatClampNeg < pn (cr_cpar τ I) := by
      show x1.toNatClampNeg < cr_cn0 I
      have : x1.toNatClampNeg = x1.toInt.toNat := rfl
      omega
    have d8 := hv.dip (τ := τ) ln (by omega)
    rw [← ex1] at d8
    refine ⟨d8.1, ?_⟩
    rw [d8.2]
    refine hk _ _ τ fun K2 k2 => ⟨τ, x1, fun r J => K2 (some (.int r)) J (cr_rf τ), rfl, h0, rfl, ?_, fun _ _ q => q⟩
    unfold t_yX9_dip
    simp only [f_yX9_isLorry, cr_in0, Int32.toInt_toInt64, Classical.not_not, b1', e27, zl_0]
    refine ⟨fun _ => cw_mtold hJ.mtld fun J2 f2 hv2 => ?_, fun d => absurd c d⟩
    rw [ep, e0, e2, e19] at hv2
    have d9 := hv2.dip (τ := τ) ((f2 214 1 (by unfold cr_PRm; omega)).trans e1) ln (by omega)
    rw [← ex1] at d9
    refine ⟨d9.1, ?_⟩
    rw [d9.2]
    exact k2 _ (hJ.run9 f2)
  · unfold t_yX9_dip
    simp only [f_yX9_isLorry, cr_in0, Int32.toInt_toInt64, Classical.not_not, b1, zl_0]
    exact ⟨fun d => absurd d c, fun _ => k2 _ h⟩
theorem S_grows : cr_S T_yX8_grows T_yX9_grows [] := by
  intro τ I K h hk
  have h0 := h.1
  refine ⟨τ, rfl, h0, rfl, h.ctld, fun r J q => ?_⟩
  obtain ⟨f, er⟩ := q
  have hJ := h.run8 f
  obtain ⟨ep, e0, e2, e19, e1, en⟩ := cr_run_eq h f
  refine hk r J τ fun K2 k2 => ⟨τ, rfl, h0, rfl, hJ.mtld, fun r2 J2 q2 => ?_⟩
  obtain ⟨f2, er2⟩ := q2
  rw [ep, e0, e2, e19, en, ← er] at er2
  rw [er2]
  exact k2 _ (hJ.run9 f2)
theorem S_sparing : cr_S T_yX8_sparing T_yX9_sparing [] := by
  intro τ I K h hk
  have h0 := h.1
  refine ⟨τ, rfl, h0, rfl, h.ctld, fun r J q => ?_⟩
  obtain ⟨f, er⟩ := q
  have hJ := h.run8 f
  obtain ⟨ep, e0, e2, e19, e1, en⟩ := cr_run_eq h f
  refine hk r J τ fun K2 k2 => ⟨τ, rfl, h0, rfl, hJ.mtld, fun r2 J2 q2 => ?_⟩
  obtain ⟨f2, er2⟩ := q2
  rw [ep, e0, e2, e19, ← er] at er2
  rw [er2]
  exact k2 _ (hJ.run9 f2)
theorem S_need {x1 x2 : Int32} : cr_S T_yX8_need T_yX9_need [.int x1, .int x2] := by
  intro τ I K h hk
  have h0 := h.1
  refine ⟨τ, x1, x2, rfl, h0, rfl, h.rok, fun r J q => ?_⟩
  unfold q_yX8_need at q
  rw [cr_noch] at q
  rcases q with ⟨c, rfl, rfl⟩ | ⟨c, f, er⟩
  · refine hk _ J τ fun K2 k2 => ⟨τ, x1, x2, rfl, h0, rfl, h.mok, fun r2 J2 q2 => ?_⟩
    rcases q2 with ⟨-, rfl, rfl⟩ | ⟨d, -⟩
    · exact k2 _ h
    · exact absurd d c
  · have hJ := h.run8 f
    obtain ⟨ep, e0, e2, e19, e1, en⟩ := cr_run_eq h f
    refine hk _ J τ fun K2 k2 => ⟨τ, x1, x2, rfl, h0, rfl, hJ.mok, fun r2 J2 q2 => ?_⟩
    unfold q_yX9_need at q2
    rw [ep, ← er] at q2
    rcases q2 with ⟨d, -⟩ | ⟨-, f2, rfl⟩
    · exact absurd c d
    · exact k2 _ (hJ.run9 f2)
theorem S_bears {x1 x2 : Int32} : cr_S T_yX8_bears T_yX9_bears [.int x1, .int x2] := by
  intro τ I K h hk
  have h0 := h.1
  refine ⟨τ, x1, x2, rfl, h0, rfl, h.ctld, fun r J q => ?_⟩
  unfold q_yX8_bears at q
  rw [cr_nopl] at q
  rcases q with ⟨c, rfl, rfl⟩ | ⟨c, f, er⟩
  · refine hk _ J τ fun K2 k2 => ⟨τ, x1, x2, rfl, h0, rfl, h.mtld, fun r2 J2 q2 => ?_⟩
    rcases q2 with ⟨-, rfl, rfl⟩ | ⟨d, -⟩
    · exact k2 _ h
    · exact absurd d c
  · have hJ := h.run8 f
    obtain ⟨ep, e0, e2, e19, e1, en⟩ := cr_run_eq h f
    refine hk _ J τ fun K2 k2 => ⟨τ, x1, x2, rfl, h0, rfl, hJ.mtld, fun r2 J2 q2 => ?_⟩
    unfold q_yX9_bears at q2
    rw [ep, e0, e2, e19] at q2
    rcases q2 with ⟨d, -⟩ | ⟨-, f2, er2⟩
    · exact absurd c d
    · have ew : cr_wgR (cr_cpar τ I) (I 130 0) (cr_dl (I 130 2)) (I 27 4) (fun i => J 201 (cr_mmk J i)) x1 x2 = cr_wgR (cr_cpar τ I) (I 130 0) (cr_dl (I 130 2)) (I 27 4) (fun i => I (29 + 25 * cr_cmk I i) 0) x1 x2 := by
        funext t
        unfold cr_wgR
        refine cr_wgS_c _ fun i hi => ⟨rfl, ?_⟩
        have hi : i < cr_cn0 I := hi
        obtain ⟨-, cb, -⟩ := h.cn
        have r6 := h.2.2.2.2.1.2.2.2 i (by omega)
        have em : cr_mmk J i = cr_cmk I i := by
          unfold cr_mmk cr_cmk
          rw [hJ.2.2.2.2.1.2.2.1, f 129 i (by omega)]
        have lm : cr_cmk I i < 4 := by
          have : cr_cmk I i = (I 129 i).toInt.toNat := rfl
          omega
        show J 201 (cr_mmk J i) = I (29 + 25 * cr_cmk I i) 0
        rw [em, f 201 _ (by omega)]
        exact (h.2.2.1 _ lm).2.1
      rw [ew, ← er] at er2
      rw [er2]
      exact k2 _ (hJ.run9 f2)
/-! safe, worst -/
theorem cr_ft {τ : Nat → Nat} {I : cr_I} {x1 x2 x3 : Int32} (h : cr_Rel τ I) (c : (0 ≤ x2.toInt ∧ x2.toInt ≤ 4) ∧ (0 ≤ x3.toInt ∧ x3.toInt ≤ 2)) {P : Int32 → cr_I → Prop} (ok : ∀ (r : Int32) (J : cr_I), cr_fr 137 168 I J → (∀ P2 : Int32 → cr_I → Prop, (∀ J2, cr_Rel τ J2 → P2 r J2) → p_yX9_worstOf τ x1 x2 x3 J ∧ ∀ r1 J1, q_yX9_worstOf τ x1 x2 x3 J r1 J1 → P2 r1 J1) → P r J) : p_yX4_firstTouching τ x1 x2 x3 I ∧ ∀ r1 J1, q_yX4_firstTouching τ x1 x2 x3 I r1 J1 → P r1 J1 := by
  refine ⟨⟨h.rok, c.1, c.2⟩, fun r J q => ?_⟩
  obtain ⟨f, er⟩ := q
  have hJ := h.run8 f
  obtain ⟨ep, e0, e2, e19, e1, en⟩ := cr_run_eq h f
  refine ok r J f fun P2 p2 => ⟨⟨hJ.mok, c.1, c.2⟩, fun r2 J2 q2 => ?_⟩
  obtain ⟨f2, er2⟩ := q2
  rw [ep, ← er] at er2
  rw [er2]
  exact p2 _ (hJ.run9 f2)
theorem S_worst {x1 x2 x3 : Int32} : cr_S T_yX8_worst T_yX9_worst [.int x1, .int x2, .int x3] := by
  intro τ I K h hk
  have h0 := h.1
  have fin : ∀ (r : Int32) (J : cr_I), (∀ Q2 : Int32 → cr_I → Prop, (∀ I2, cr_Rel τ I2 → Q2 r I2) → t_yX9_worst τ x1 x2 x3 J Q2) → K (some (.int r)) J (cr_rf τ) := fun r J h9 => hk r J τ fun K2 k2 => ⟨τ, x1, x2, x3, fun r' J' => K2 (some (.int r')) J' (cr_rf τ), rfl, h0, rfl, h9 _ k2, fun _ _ q => q⟩
  refine ⟨τ, x1, x2, x3, fun r J => K (some (.int r)) J (cr_rf τ), rfl, h0, rfl, ?_, fun _ _ q => q⟩
  unfold t_yX8_worst
  simp only [cr_out0, cr_noch, zi_1, zi_99]
  unfold t_yX9_worst at fin
  simp only [cr_in0, cr_mish, Int32.toInt_toInt64, Classical.not_not, zl_1, zl_99] at fin
  refine ⟨fun c => fin _ _ fun Q2 q2 => ⟨fun _ => q2 _ h, fun d => absurd d c⟩, fun c => ⟨fun c2 => ?_, fun c2 => fin _ _ fun Q2 q2 => ⟨fun d => absurd c d, fun _ => ⟨fun _ => q2 _ h, fun d => absurd d c2⟩⟩⟩⟩
  exact cr_ft h c2 fun r J f h9 => fin r J fun Q2 q2 => ⟨fun d => absurd c d, fun _ => ⟨fun d => absurd c2 d, fun _ => h9 Q2 q2⟩⟩
theorem S_safe {x1 x2 x3 : Int32} : cr_S T_yX8_safe T_yX9_safe [.int x1, .int x2, .int x3] := by
  intro τ I K h hk
  have h0 := h.1
  have fin : ∀ (r : Int32) (J : cr_I), (∀ Q2 : Int32 → cr_I → Prop, (∀ I2, cr_Rel τ I2 → Q2 r I2) → t_yX9_safe τ x1 x2 x3 J Q2) → K (some (.int r)) J (cr_rf τ) := fun r J h9 => hk r J τ fun K2 k2 => ⟨τ, x1, x2, x3, fun r' J' => K2 (some (.int r')) J' (cr_rf τ), rfl, h0, rfl, h9 _ k2, fun _ _ q => q⟩
  refine ⟨τ, x1, x2, x3, fun r J => K (some (.int r)) J (cr_rf τ), rfl, h0, rfl, ?_, fun _ _ q => q⟩
  unfold t_yX8_safe
  simp only [cr_out0, cr_noch, zi_1, zi_99]
  unfold t_yX9_safe at fin
  simp only [cr_in0, cr_mish, Int32.toInt_toInt64, Classical.not_not, zl_1, zl_99] at fin
  refine ⟨fun c => fin _ _ fun Q2 q2 => ⟨fun _ => q2 _ h, fun d => absurd d c⟩, fun c => ⟨fun c2 => ?_, fun c2 => fin _ _ fun Q2 q2 => ⟨fun d => absurd c d, fun _ => ⟨fun d => absurd d c2, fun _ => q2 _ h⟩⟩⟩⟩
  refine cr_ft (P := fun r J => (¬ r = (-1 : Int32) → K (some (.int 0)) J (cr_rf τ)) ∧ (r = (-1 : Int32) → K (some (.int 1)) J (cr_rf τ))) h c2 fun r J f h9 => ⟨fun e => ?_, fun e => ?_⟩
  · exact fin _ J fun Q2 q2 => ⟨fun d => absurd c d, fun _ => ⟨fun _ => h9 (fun r1 J1 => (¬ r1 = (-1 : Int32) → Q2 0 J1) ∧ (r1 = (-1 : Int32) → Q2 1 J1)) (fun J2 hJ2 => ⟨fun _ => q2 _ hJ2, fun d => absurd d e⟩), fun d => absurd c2 d⟩⟩
  · exact fin _ J fun Q2 q2 => ⟨fun d => absurd c d, fun _ => ⟨fun _ => h9 (fun r1 J1 => (¬ r1 = (-1 : Int32) → Q2 0 J1) ∧ (r1 = (-1 : Int32) → Q2 1 J1)) (fun J2 hJ2 => ⟨fun d => absurd e d, fun _ => q2 _ hJ2⟩), fun d => absurd c2 d⟩⟩
