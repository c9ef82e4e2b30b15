/-! SHARES -/
theorem cr_spS_c {sp sp' : Nat → Nat → Int32} {s : Int32} (e : ∀ p a, p < 6 → a < 6 → sp p a = sp' p a) : ∀ k, k ≤ 6 → cr_spS sp s k = cr_spS sp' s k
  | 0, _ => rfl
  | k + 1, hk => by
    rw [cr_spS, cr_spS, cr_spS_c e k (by omega)]
    rcases cr_spS_l sp' s k with h | ⟨j, hj, h⟩
    · rw [h, if_pos rfl, if_pos rfl]
    · rw [h, cr_nc (by omega), e k j (by omega) (by omega)]
theorem cr_spS_b {sp : Nat → Nat → Int32} {s : Int32} (e : ∀ p a, p < 6 → a < 6 → 0 ≤ (sp p a).toInt ∧ (sp p a).toInt ≤ 99) : ∀ k, k ≤ 6 → 0 ≤ (cr_spS sp s k).1.toInt ∧ (cr_spS sp s k).1.toInt ≤ 99 * k
  | 0, _ => by
    show 0 ≤ (0 : Int32).toInt ∧ (0 : Int32).toInt ≤ 99 * (0 : Nat)
    decide
  | k + 1, hk => by
    have ih := cr_spS_b (s := s) e k (by omega)
    rw [cr_spS]
    split
    · omega
    · rcases cr_spS_l sp s k with h | ⟨j, hj, h⟩
      · rw [h, if_pos rfl]
        have z : (0 : Int32).toInt = 0 := rfl
        show 0 ≤ ((cr_spS sp s k).1 + 0).toInt ∧ ((cr_spS sp s k).1 + 0).toInt ≤ _
        rw [cr_add (by omega), z]
        omega
      · have n1 : ¬ nI j = -1 := fun q => by
          have := congrArg Int32.toInt q
          rw [cr_nt (by omega)] at this
          have z : (-1 : Int32).toInt = -1 := rfl
          omega
        rw [h, if_neg n1, cr_nc (by omega)]
        have b := e k j (by omega) (by omega)
        show 0 ≤ ((cr_spS sp s k).1 + sp k j).toInt ∧ ((cr_spS sp s k).1 + sp k j).toInt ≤ _
        rw [cr_add (by omega)]
        omega
theorem cr_sumS_c {sp sp' : Nat → Nat → Int32} {p n : Nat} (e : ∀ p a, p < 6 → a < 6 → sp p a = sp' p a) : ∀ m, cr_sumS sp p n m = cr_sumS sp' p n m
  | 0 => rfl
  | m + 1 => by rw [cr_sumS, cr_sumS, cr_sumS_c e m, cr_spS_c e 6 (by omega), cr_spS_c e 6 (by omega)]
theorem cr_tt2 : ∀ n, n < 7 → ∀ c, c < n → 0 ≤ (cr_tab 0 c * cr_tab 0 (n - 1 - c)).toInt ∧ (cr_tab 0 c * cr_tab 0 (n - 1 - c)).toInt ≤ 120 := by decide +kernel
theorem cr_sumS_b {sp : Nat → Nat → Int32} {p n : Nat} (e : ∀ p a, p < 6 → a < 6 → 0 ≤ (sp p a).toInt ∧ (sp p a).toInt ≤ 99) (hn : n < 7) (hp : p < n) : ∀ m : Nat, m ≤ 2 ^ n → m ≤ 64 → -(71280 * (m : Int)) ≤ (cr_sumS sp p n m).toInt ∧ (cr_sumS sp p n m).toInt ≤ 71280 * (m : Int)
  | 0, _, _ => by
    show -(71280 * ((0 : Nat) : Int)) ≤ (0 : Int32).toInt ∧ (0 : Int32).toInt ≤ 71280 * ((0 : Nat) : Int)
    decide
  | m + 1, hm, h64 => by
    have ih := cr_sumS_b e hn hp m (by omega) (by omega)
    rw [cr_sumS]
    split
    · rename_i hb
      have hc := cr_pcn n hn p hp m (by omega) hb
      have t := cr_tt2 n hn (cr_pc m) (by omega)
      have d1 := cr_spS_b (s := nI m ||| ((1 : Int32) <<< (nI p &&& 31))) e 6 (by omega)
      have d2 := cr_spS_b (s := nI m) e 6 (by omega)
      generalize cr_tab 0 (cr_pc m) * cr_tab 0 (n - 1 - cr_pc m) = T at t
      have dd : ((cr_spS sp (nI m ||| ((1 : Int32) <<< (nI p &&& 31))) 6).1 - (cr_spS sp (nI m) 6).1).toInt = (cr_spS sp (nI m ||| ((1 : Int32) <<< (nI p &&& 31))) 6).1.toInt - (cr_spS sp (nI m) 6).1.toInt := cr_sub (by omega)
      generalize (cr_spS sp (nI m ||| ((1 : Int32) <<< (nI p &&& 31))) 6).1 - (cr_spS sp (nI m) 6).1 = D at dd
      have na : (T.toInt * D.toInt).natAbs ≤ 120 * 594 := by
        rw [Int.natAbs_mul]
        exact Nat.mul_le_mul (by omega) (by omega)
      have mm : (T * D).toInt = T.toInt * D.toInt := cr_mul (by omega)
      rw [cr_add (by rw [mm]; omega), mm]
      omega
    · omega
theorem cr_Rel.spe {τ : Nat → Nat} {I : cr_I} (h : cr_Rel τ I) : ∀ p a, p < 6 → a < 6 → (fun p a => I 226 (6 * p + a)) p a = (fun p a => I (179 + p) a) p a := fun p a hp ha => (h.2.2.2.2.2.2.2.2.2.2.2.1 p hp a ha).1
theorem cr_Rel.spb {τ : Nat → Nat} {I : cr_I} (h : cr_Rel τ I) : ∀ p a, p < 6 → a < 6 → 0 ≤ ((fun p a => I (179 + p) a) p a).toInt ∧ ((fun p a => I (179 + p) a) p a).toInt ≤ 99 := fun p a hp ha => (h.2.2.2.2.2.2.2.2.2.2.2.1 p hp a ha).2
theorem S_together {x1 : Int32} : cr_S T_yX8_together T_yX9_together [.int x1] := by
  intro τ I K h hk
  have h0 := h.1
  have e : f_yX9_sparedIn τ x1 I = f_yX5_sparedOf τ x1 I := by
    unfold f_yX9_sparedIn f_yX5_sparedOf
    rw [cr_spS_c h.spe 6 (by omega)]
  have fin : ∀ (r : Int32), (∀ Q2 : Int32 → cr_I → Prop, Q2 r I → t_yX9_together τ x1 I Q2) → K (some (.int r)) I (cr_rf τ) := fun r h9 => hk r I τ fun K2 k2 => ⟨τ, x1, fun r' J' => K2 (some (.int r')) J' (cr_rf τ), rfl, h0, rfl, h9 _ (k2 _ h), fun _ _ q => q⟩
  refine ⟨τ, x1, fun r J => K (some (.int r)) J (cr_rf τ), rfl, h0, rfl, ?_, fun _ _ q => q⟩
  unfold t_yX8_together
  unfold t_yX9_together at fin
  simp only [cr_out0, zi_0, zi_63]
  simp only [cr_in0, Int32.toInt_toInt64, Classical.not_not, zl_0, zl_63, e] at fin
  exact ⟨fun c => ⟨trivial, fin _ fun Q2 q2 => ⟨fun d => absurd c d, fun _ => ⟨trivial, q2⟩⟩⟩, fun c => fin _ fun Q2 q2 => ⟨fun _ => q2, fun d => absurd d c⟩⟩
/-! dividing downwards -/
theorem cr_xor0 {v F : Int32} (hF : 0 ≤ F.toInt) : (0 ≤ (v ^^^ F)) ↔ 0 ≤ v.toInt := by
  have a : (v ^^^ F).toBitVec.msb = (v.toBitVec.msb ^^ F.toBitVec.msb) := by
    rw [Int32.toBitVec_xor, BitVec.msb_xor]
  have b : ∀ x : Int32, x.toBitVec.msb = decide (x.toInt < 0) := fun x => BitVec.msb_eq_toInt
  rw [b, b, b] at a
  rw [cr_le]
  have z : (0 : Int32).toInt = 0 := rfl
  rw [z]
  have c : decide (F.toInt < 0) = false := decide_eq_false (by omega)
  rw [c, Bool.xor_false] at a
  have d := decide_eq_decide.mp a
  omega
theorem cr_tdivE (x : Int) (c : Int) (hc : 0 ≤ c) : x.tdiv c = if 0 ≤ x then x / c else -((-x) / c) := by
  by_cases h : 0 ≤ x
  · rw [if_pos h, Int.tdiv_eq_ediv_of_nonneg h]
  · rw [if_neg h, ← Int.tdiv_eq_ediv_of_nonneg (show 0 ≤ -x by omega), Int.neg_tdiv, Int.neg_neg]
theorem cr_flo1 {τ : Nat → Nat} {v : Int32} {I : cr_I} (h : -10000000 ≤ v.toInt ∧ v.toInt ≤ 10000000) : f_yJ9_floorDiv_7cf53 τ v 1 I = f_yX9_cut τ v 1 I ∧ f_yJ9_floorMod_7cf53 τ v 1 I = v - 1 * f_yX9_cut τ v 1 I := by
  have zc : (1 : Int32).toInt = 1 := rfl
  have z0 : (0 : Int32).toInt = 0 := rfl
  have z1 : (1 : Int32).toInt = 1 := rfl
  have dv : ∀ y : Int32, -20000000 ≤ y.toInt → y.toInt ≤ 20000000 → (y / 1).toInt = if 0 ≤ y.toInt then y.toInt / 1 else -((-y.toInt) / 1) := fun y h1 h2 => by
    rw [Int32.toInt_div, zc, cr_tdivE _ _ (by omega)]
    exact cr_bm (by split <;> omega)
  have d1 := dv v (by omega) (by omega)
  have q1 : (v / 1 * 1).toInt = (v / 1).toInt * 1 := by
    rw [cr_mul (by rw [zc, d1]; split <;> omega), zc]
  have q2 : (v - v / 1 * 1).toInt = v.toInt - (v / 1).toInt * 1 := by
    rw [cr_sub (by rw [q1, d1]; split <;> omega), q1]
  have s1 : (v / 1 - 1).toInt = (v / 1).toInt - 1 := by rw [cr_sub (by rw [d1, z1]; split <;> omega), z1]
  have k1 : ((1 : Int32) - 1).toInt = 1 - 1 := rfl
  have k2 : ((1 : Int32) - 1 - v).toInt = 1 - 1 - v.toInt := by rw [cr_sub (by rw [k1]; omega), k1]
  have d2 := dv ((1 : Int32) - 1 - v) (by omega) (by omega)
  have fd : (f_yJ9_floorDiv_7cf53 τ v 1 I).toInt = v.toInt / 1 := by
    unfold f_yJ9_floorDiv_7cf53
    simp only [cr_xor0 (v := v) (F := 1) (by omega), cr_eq, q1]
    by_cases hv : 0 ≤ v.toInt
    · rw [if_pos hv, d1, if_pos hv]
    · rw [if_neg hv]
      rw [if_neg hv] at d1
      split
      · omega
      · rw [s1]
        omega
  have fc : (f_yX9_cut τ v 1 I).toInt = v.toInt / 1 := by
    unfold f_yX9_cut
    simp only [cr_lt, z0]
    by_cases hv : v.toInt < 0
    · rw [if_pos hv, cr_neg (by rw [d2]; split <;> omega), d2, if_pos (by omega), k2]
      omega
    · rw [if_neg hv, d1, if_pos (by omega)]
  refine ⟨cr_eq.mpr (fd.trans fc.symm), cr_eq.mpr ?_⟩
  have m1 : ((1 : Int32) * f_yX9_cut τ v 1 I).toInt = 1 * (v.toInt / 1) := by
    rw [cr_mul (by rw [zc, fc]; omega), zc, fc]
  rw [cr_sub (by rw [m1]; omega), m1]
  unfold f_yJ9_floorMod_7cf53
  simp only [cr_xor0 (v := v) (F := 1) (by omega), cr_eq, q2, z0]
  by_cases hv : 0 ≤ v.toInt
  · rw [if_pos hv, q2, d1, if_pos hv]
    omega
  · rw [if_neg hv]
    rw [if_neg hv] at d1
    split
    · rw [q2]
      omega
    · rw [cr_add (by rw [q2, zc]; omega), q2, zc]
      omega
theorem cr_flo2 {τ : Nat → Nat} {v : Int32} {I : cr_I} (h : -10000000 ≤ v.toInt ∧ v.toInt ≤ 10000000) : f_yJ9_floorDiv_7cf53 τ v 2 I = f_yX9_cut τ v 2 I ∧ f_yJ9_floorMod_7cf53 τ v 2 I = v - 2 * f_yX9_cut τ v 2 I := by
  have zc : (2 : Int32).toInt = 2 := rfl
  have z0 : (0 : Int32).toInt = 0 := rfl
  have z1 : (1 : Int32).toInt = 1 := rfl
  have dv : ∀ y : Int32, -20000000 ≤ y.toInt → y.toInt ≤ 20000000 → (y / 2).toInt = if 0 ≤ y.toInt then y.toInt / 2 else -((-y.toInt) / 2) := fun y h1 h2 => by
    rw [Int32.toInt_div, zc, cr_tdivE _ _ (by omega)]
    exact cr_bm (by split <;> omega)
  have d1 := dv v (by omega) (by omega)
  have q1 : (v / 2 * 2).toInt = (v / 2).toInt * 2 := by
    rw [cr_mul (by rw [zc, d1]; split <;> omega), zc]
  have q2 : (v - v / 2 * 2).toInt = v.toInt - (v / 2).toInt * 2 := by
    rw [cr_sub (by rw [q1, d1]; split <;> omega), q1]
  have s1 : (v / 2 - 1).toInt = (v / 2).toInt - 1 := by rw [cr_sub (by rw [d1, z1]; split <;> omega), z1]
  have k1 : ((2 : Int32) - 1).toInt = 2 - 1 := rfl
  have k2 : ((2 : Int32) - 1 - v).toInt = 2 - 1 - v.toInt := by rw [cr_sub (by rw [k1]; omega), k1]
  have d2 := dv ((2 : Int32) - 1 - v) (by omega) (by omega)
  have fd : (f_yJ9_floorDiv_7cf53 τ v 2 I).toInt = v.toInt / 2 := by
    unfold f_yJ9_floorDiv_7cf53
    simp only [cr_xor0 (v := v) (F := 2) (by omega), cr_eq, q1]
    by_cases hv : 0 ≤ v.toInt
    · rw [if_pos hv, d1, if_pos hv]
    · rw [if_neg hv]
      rw [if_neg hv] at d1
      split
      · omega
      · rw [s1]
        omega
  have fc : (f_yX9_cut τ v 2 I).toInt = v.toInt / 2 := by
    unfold f_yX9_cut
    simp only [cr_lt, z0]
    by_cases hv : v.toInt < 0
    · rw [if_pos hv, cr_neg (by rw [d2]; split <;> omega), d2, if_pos (by omega), k2]
      omega
    · rw [if_neg hv, d1, if_pos (by omega)]
  refine ⟨cr_eq.mpr (fd.trans fc.symm), cr_eq.mpr ?_⟩
  have m1 : ((2 : Int32) * f_yX9_cut τ v 2 I).toInt = 2 * (v.toInt / 2) := by
    rw [cr_mul (by rw [zc, fc]; omega), zc, fc]
  rw [cr_sub (by rw [m1]; omega), m1]
  unfold f_yJ9_floorMod_7cf53
  simp only [cr_xor0 (v := v) (F := 2) (by omega), cr_eq, q2, z0]
  by_cases hv : 0 ≤ v.toInt
  · rw [if_pos hv, q2, d1, if_pos hv]
    omega
  · rw [if_neg hv]
    rw [if_neg hv] at d1
    split
    · rw [q2]
      omega
    · rw [cr_add (by rw [q2, zc]; omega), q2, zc]
      omega
theorem cr_flo6 {τ : Nat → Nat} {v : Int32} {I : cr_I} (h : -10000000 ≤ v.toInt ∧ v.toInt ≤ 10000000) : f_yJ9_floorDiv_7cf53 τ v 6 I = f_yX9_cut τ v 6 I ∧ f_yJ9_floorMod_7cf53 τ v 6 I = v - 6 * f_yX9_cut τ v 6 I := by
  have zc : (6 : Int32).toInt = 6 := rfl
  have z0 : (0 : Int32).toInt = 0 := rfl
  have z1 : (1 : Int32).toInt = 1 := rfl
  have dv : ∀ y : Int32, -20000000 ≤ y.toInt → y.toInt ≤ 20000000 → (y / 6).toInt = if 0 ≤ y.toInt then y.toInt / 6 else -((-y.toInt) / 6) := fun y h1 h2 => by
    rw [Int32.toInt_div, zc, cr_tdivE _ _ (by omega)]
    exact cr_bm (by split <;> omega)
  have d1 := dv v (by omega) (by omega)
  have q1 : (v / 6 * 6).toInt = (v / 6).toInt * 6 := by
    rw [cr_mul (by rw [zc, d1]; split <;> omega), zc]
  have q2 : (v - v / 6 * 6).toInt = v.toInt - (v / 6).toInt * 6 := by
    rw [cr_sub (by rw [q1, d1]; split <;> omega), q1]
  have s1 : (v / 6 - 1).toInt = (v / 6).toInt - 1 := by rw [cr_sub (by rw [d1, z1]; split <;> omega), z1]
  have k1 : ((6 : Int32) - 1).toInt = 6 - 1 := rfl
  have k2 : ((6 : Int32) - 1 - v).toInt = 6 - 1 - v.toInt := by rw [cr_sub (by rw [k1]; omega), k1]
  have d2 := dv ((6 : Int32) - 1 - v) (by omega) (by omega)
  have fd : (f_yJ9_floorDiv_7cf53 τ v 6 I).toInt = v.toInt / 6 := by
    unfold f_yJ9_floorDiv_7cf53
    simp only [cr_xor0 (v := v) (F := 6) (by omega), cr_eq, q1]
    by_cases hv : 0 ≤ v.toInt
    · rw [if_pos hv, d1, if_pos hv]
    · rw [if_neg hv]
      rw [if_neg hv] at d1
      split
      · omega
      · rw [s1]
        omega
  have fc : (f_yX9_cut τ v 6 I).toInt = v.toInt / 6 := by
    unfold f_yX9_cut
    simp only [cr_lt, z0]
    by_cases hv : v.toInt < 0
    · rw [if_pos hv, cr_neg (by rw [d2]; split <;> omega), d2, if_pos (by omega), k2]
      omega
    · rw [if_neg hv, d1, if_pos (by omega)]
  refine ⟨cr_eq.mpr (fd.trans fc.symm), cr_eq.mpr ?_⟩
  have m1 : ((6 : Int32) * f_yX9_cut τ v 6 I).toInt = 6 * (v.toInt / 6) := by
    rw [cr_mul (by rw [zc, fc]; omega), zc, fc]
  rw [cr_sub (by rw [m1]; omega), m1]
  unfold f_yJ9_floorMod_7cf53
  simp only [cr_xor0 (v := v) (F := 6) (by omega), cr_eq, q2, z0]
  by_cases hv : 0 ≤ v.toInt
  · rw [if_pos hv, q2, d1, if_pos hv]
    omega
  · rw [if_neg hv]
    rw [if_neg hv] at d1
    split
    · rw [q2]
      omega
    · rw [cr_add (by rw [q2, zc]; omega), q2, zc]
      omega
theorem cr_flo24 {τ : Nat → Nat} {v : Int32} {I : cr_I} (h : -10000000 ≤ v.toInt ∧ v.toInt ≤ 10000000) : f_yJ9_floorDiv_7cf53 τ v 24 I = f_yX9_cut τ v 24 I ∧ f_yJ9_floorMod_7cf53 τ v 24 I = v - 24 * f_yX9_cut τ v 24 I := by
  have zc : (24 : Int32).toInt = 24 := rfl
  have z0 : (0 : Int32).toInt = 0 := rfl
  have z1 : (1 : Int32).toInt = 1 := rfl
  have dv : ∀ y : Int32, -20000000 ≤ y.toInt → y.toInt ≤ 20000000 → (y / 24).toInt = if 0 ≤ y.toInt then y.toInt / 24 else -((-y.toInt) / 24) := fun y h1 h2 => by
    rw [Int32.toInt_div, zc, cr_tdivE _ _ (by omega)]
    exact cr_bm (by split <;> omega)
  have d1 := dv v (by omega) (by omega)
  have q1 : (v / 24 * 24).toInt = (v / 24).toInt * 24 := by
    rw [cr_mul (by rw [zc, d1]; split <;> omega), zc]
  have q2 : (v - v / 24 * 24).toInt = v.toInt - (v / 24).toInt * 24 := by
    rw [cr_sub (by rw [q1, d1]; split <;> omega), q1]
  have s1 : (v / 24 - 1).toInt = (v / 24).toInt - 1 := by rw [cr_sub (by rw [d1, z1]; split <;> omega), z1]
  have k1 : ((24 : Int32) - 1).toInt = 24 - 1 := rfl
  have k2 : ((24 : Int32) - 1 - v).toInt = 24 - 1 - v.toInt := by rw [cr_sub (by rw [k1]; omega), k1]
  have d2 := dv ((24 : Int32) - 1 - v) (by omega) (by omega)
  have fd : (f_yJ9_floorDiv_7cf53 τ v 24 I).toInt = v.toInt / 24 := by
    unfold f_yJ9_floorDiv_7cf53
    simp only [cr_xor0 (v := v) (F := 24) (by omega), cr_eq, q1]
    by_cases hv : 0 ≤ v.toInt
    · rw [if_pos hv, d1, if_pos hv]
    · rw [if_neg hv]
      rw [if_neg hv] at d1
      split
      · omega
      · rw [s1]
        omega
  have fc : (f_yX9_cut τ v 24 I).toInt = v.toInt / 24 := by
    unfold f_yX9_cut
    simp only [cr_lt, z0]
    by_cases hv : v.toInt < 0
    · rw [if_pos hv, cr_neg (by rw [d2]; split <;> omega), d2, if_pos (by omega), k2]
      omega
    · rw [if_neg hv, d1, if_pos (by omega)]
  refine ⟨cr_eq.mpr (fd.trans fc.symm), cr_eq.mpr ?_⟩
  have m1 : ((24 : Int32) * f_yX9_cut τ v 24 I).toInt = 24 * (v.toInt / 24) := by
    rw [cr_mul (by rw [zc, fc]; omega), zc, fc]
  rw [cr_sub (by rw [m1]; omega), m1]
  unfold f_yJ9_floorMod_7cf53
  simp only [cr_xor0 (v := v) (F := 24) (by omega), cr_eq, q2, z0]
  by_cases hv : 0 ≤ v.toInt
  · rw [if_pos hv, q2, d1, if_pos hv]
    omega
  · rw [if_neg hv]
    rw [if_neg hv] at d1
    split
    · rw [q2]
      omega
    · rw [cr_add (by rw [q2, zc]; omega), q2, zc]
      omega
theorem cr_flo120 {τ : Nat → Nat} {v : Int32} {I : cr_I} (h : -10000000 ≤ v.toInt ∧ v.toInt ≤ 10000000) : f_yJ9_floorDiv_7cf53 τ v 120 I = f_yX9_cut τ v 120 I ∧ f_yJ9_floorMod_7cf53 τ v 120 I = v - 120 * f_yX9_cut τ v 120 I := by
  have zc : (120 : Int32).toInt = 120 := rfl
  have z0 : (0 : Int32).toInt = 0 := rfl
  have z1 : (1 : Int32).toInt = 1 := rfl
  have dv : ∀ y : Int32, -20000000 ≤ y.toInt → y.toInt ≤ 20000000 → (y / 120).toInt = if 0 ≤ y.toInt then y.toInt / 120 else -((-y.toInt) / 120) := fun y h1 h2 => by
    rw [Int32.toInt_div, zc, cr_tdivE _ _ (by omega)]
    exact cr_bm (by split <;> omega)
  have d1 := dv v (by omega) (by omega)
  have q1 : (v / 120 * 120).toInt = (v / 120).toInt * 120 := by
    rw [cr_mul (by rw [zc, d1]; split <;> omega), zc]
  have q2 : (v - v / 120 * 120).toInt = v.toInt - (v / 120).toInt * 120 := by
    rw [cr_sub (by rw [q1, d1]; split <;> omega), q1]
  have s1 : (v / 120 - 1).toInt = (v / 120).toInt - 1 := by rw [cr_sub (by rw [d1, z1]; split <;> omega), z1]
  have k1 : ((120 : Int32) - 1).toInt = 120 - 1 := rfl
  have k2 : ((120 : Int32) - 1 - v).toInt = 120 - 1 - v.toInt := by rw [cr_sub (by rw [k1]; omega), k1]
  have d2 := dv ((120 : Int32) - 1 - v) (by omega) (by omega)
  have fd : (f_yJ9_floorDiv_7cf53 τ v 120 I).toInt = v.toInt / 120 := by
    unfold f_yJ9_floorDiv_7cf53
    simp only [cr_xor0 (v := v) (F := 120) (by omega), cr_eq, q1]
    by_cases hv : 0 ≤ v.toInt
    · rw [if_pos hv, d1, if_pos hv]
    · rw [if_neg hv]
      rw [if_neg hv] at d1
      split
      · omega
      · rw [s1]
        omega
  have fc : (f_yX9_cut τ v 120 I).toInt = v.toInt / 120 := by
    unfold f_yX9_cut
    simp only [cr_lt, z0]
    by_cases hv : v.toInt < 0
    · rw [if_pos hv, cr_neg (by rw [d2]; split <;> omega), d2, if_pos (by omega), k2]
      omega
    · rw [if_neg hv, d1, if_pos (by omega)]
  refine ⟨cr_eq.mpr (fd.trans fc.symm), cr_eq.mpr ?_⟩
  have m1 : ((120 : Int32) * f_yX9_cut τ v 120 I).toInt = 120 * (v.toInt / 120) := by
    rw [cr_mul (by rw [zc, fc]; omega), zc, fc]
  rw [cr_sub (by rw [m1]; omega), m1]
  unfold f_yJ9_floorMod_7cf53
  simp only [cr_xor0 (v := v) (F := 120) (by omega), cr_eq, q2, z0]
  by_cases hv : 0 ≤ v.toInt
  · rw [if_pos hv, q2, d1, if_pos hv]
    omega
  · rw [if_neg hv]
    rw [if_neg hv] at d1
    split
    · rw [q2]
      omega
    · rw [cr_add (by rw [q2, zc]; omega), q2, zc]
      omega
theorem cr_flo720 {τ : Nat → Nat} {v : Int32} {I : cr_I} (h : -10000000 ≤ v.toInt ∧ v.toInt ≤ 10000000) : f_yJ9_floorDiv_7cf53 τ v 720 I = f_yX9_cut τ v 720 I ∧ f_yJ9_floorMod_7cf53 τ v 720 I = v - 720 * f_yX9_cut τ v 720 I := by
  have zc : (720 : Int32).toInt = 720 := rfl
  have z0 : (0 : Int32).toInt = 0 := rfl
  have z1 : (1 : Int32).toInt = 1 := rfl
  have dv : ∀ y : Int32, -20000000 ≤ y.toInt → y.toInt ≤ 20000000 → (y / 720).toInt = if 0 ≤ y.toInt then y.toInt / 720 else -((-y.toInt) / 720) := fun y h1 h2 => by
    rw [Int32.toInt_div, zc, cr_tdivE _ _ (by omega)]
    exact cr_bm (by split <;> omega)
  have d1 := dv v (by omega) (by omega)
  have q1 : (v / 720 * 720).toInt = (v / 720).toInt * 720 := by
    rw [cr_mul (by rw [zc, d1]; split <;> omega), zc]
  have q2 : (v - v / 720 * 720).toInt = v.toInt - (v / 720).toInt * 720 := by
    rw [cr_sub (by rw [q1, d1]; split <;> omega), q1]
  have s1 : (v / 720 - 1).toInt = (v / 720).toInt - 1 := by rw [cr_sub (by rw [d1, z1]; split <;> omega), z1]
  have k1 : ((720 : Int32) - 1).toInt = 720 - 1 := rfl
  have k2 : ((720 : Int32) - 1 - v).toInt = 720 - 1 - v.toInt := by rw [cr_sub (by rw [k1]; omega), k1]
  have d2 := dv ((720 : Int32) - 1 - v) (by omega) (by omega)
  have fd : (f_yJ9_floorDiv_7cf53 τ v 720 I).toInt = v.toInt / 720 := by
    unfold f_yJ9_floorDiv_7cf53
    simp only [cr_xor0 (v := v) (F := 720) (by omega), cr_eq, q1]
    by_cases hv : 0 ≤ v.toInt
    · rw [if_pos hv, d1, if_pos hv]
    · rw [if_neg hv]
      rw [if_neg hv] at d1
      split
      · omega
      · rw [s1]
        omega
  have fc : (f_yX9_cut τ v 720 I).toInt = v.toInt / 720 := by
    unfold f_yX9_cut
    simp only [cr_lt, z0]
    by_cases hv : v.toInt < 0
    · rw [if_pos hv, cr_neg (by rw [d2]; split <;> omega), d2, if_pos (by omega), k2]
      omega
    · rw [if_neg hv, d1, if_pos (by omega)]
  refine ⟨cr_eq.mpr (fd.trans fc.symm), cr_eq.mpr ?_⟩
  have m1 : ((720 : Int32) * f_yX9_cut τ v 720 I).toInt = 720 * (v.toInt / 720) := by
    rw [cr_mul (by rw [zc, fc]; omega), zc, fc]
  rw [cr_sub (by rw [m1]; omega), m1]
  unfold f_yJ9_floorMod_7cf53
  simp only [cr_xor0 (v := v) (F := 720) (by omega), cr_eq, q2, z0]
  by_cases hv : 0 ≤ v.toInt
  · rw [if_pos hv, q2, d1, if_pos hv]
    omega
  · rw [if_neg hv]
    rw [if_neg hv] at d1
    split
    · rw [q2]
      omega
    · rw [cr_add (by rw [q2, zc]; omega), q2, zc]
      omega
theorem cr_flo {τ : Nat → Nat} {v : Int32} {I : cr_I} {n : Nat} (hn : 1 ≤ n ∧ n ≤ 6) (h : -10000000 ≤ v.toInt ∧ v.toInt ≤ 10000000) : f_yJ9_floorDiv_7cf53 τ v (cr_tab 0 n) I = f_yX9_cut τ v (cr_tab 0 n) I ∧ f_yJ9_floorMod_7cf53 τ v (cr_tab 0 n) I = v - cr_tab 0 n * f_yX9_cut τ v (cr_tab 0 n) I := by
  rcases (show n = 1 ∨ n = 2 ∨ n = 3 ∨ n = 4 ∨ n = 5 ∨ n = 6 by omega) with rfl | rfl | rfl | rfl | rfl | rfl
  · exact cr_flo1 h
  · exact cr_flo2 h
  · exact cr_flo6 h
  · exact cr_flo24 h
  · exact cr_flo120 h
  · exact cr_flo720 h
theorem cr_coinS_c {dv dv' md md' : Int32 → Int32} {sh : Nat → Int32} {rest own : Int32} {p n : Nat} (e : ∀ q, q < n → dv (sh q) = dv' (sh q) ∧ md (sh q) = md' (sh q)) : ∀ k, k ≤ n → cr_coinS dv md sh rest own p k = cr_coinS dv' md' sh rest own p k
  | 0, _ => rfl
  | k + 1, hk => by rw [cr_coinS, cr_coinS, cr_coinS_c e k (by omega), (e k (by omega)).1, (e k (by omega)).2]
theorem cr_coinR_c {dv dv' md md' : Int32 → Int32} {sh : Nat → Int32} {rest : Int32} {p n : Nat} (hp : p < n) (e : ∀ q, q < n → dv (sh q) = dv' (sh q) ∧ md (sh q) = md' (sh q)) : cr_coinR dv md sh rest p n = cr_coinR dv' md' sh rest p n := by
  unfold cr_coinR
  rw [(e p hp).1, (e p hp).2, cr_coinS_c e n (Nat.le_refl _)]
theorem cr_tabF : ∀ n, n < 7 → 0 < (cr_tab 0 n).toInt ∧ (cr_tab 0 n).toInt ≤ 720 := by decide +kernel
theorem cr_gcd0 {x y : Int32} (h : 0 < y.toInt ∧ y.toInt ≤ 720) : ¬ cr_gcd x y = 0 := by
  intro q
  unfold cr_gcd at q
  have l : Nat.gcd x.toInt.natAbs y.toInt.natAbs ≤ y.toInt.natAbs := Nat.le_of_dvd (by omega) (Nat.gcd_dvd_right _ _)
  have p : 0 < Nat.gcd x.toInt.natAbs y.toInt.natAbs := Nat.gcd_pos_of_pos_right _ (by omega)
  have := congrArg Int32.toInt q
  rw [cr_nt (by omega)] at this
  have z : (0 : Int32).toInt = 0 := rfl
  omega
theorem S_share {x1 x2 x3 : Int32} : cr_S T_yX8_share T_yX9_share [.int x1, .int x2, .int x3] := by
  intro τ I K h hk
  have h0 := h.1
  have fin : ∀ (r : Int32), (∀ Q2 : Int32 → cr_I → Prop, Q2 r I → t_yX9_share τ x1 x2 x3 I Q2) → K (some (.int r)) I (cr_rf τ) := fun r h9 => hk r I τ fun K2 k2 => ⟨τ, x1, x2, x3, fun r' J' => K2 (some (.int r')) J' (cr_rf τ), rfl, h0, rfl, h9 _ (k2 _ h), fun _ _ q => q⟩
  refine ⟨τ, x1, x2, x3, fun r J => K (some (.int r)) J (cr_rf τ), rfl, h0, rfl, ?_, fun _ _ q => q⟩
  unfold t_yX8_share
  unfold t_yX9_share at fin
  simp only [f_yX8_isNoPerson, cr_out0, zi_0, zi_1, zi_5, zi_6, cr_lt]
  simp only [f_yX9_isSix, cr_in0, Int32.toInt_toInt64, Classical.not_not, zl_0, zl_1, zl_2, zl_5, zl_6] at fin
  refine ⟨fun c1 => ⟨fun c2 => ?_, fun c2 => fin _ fun Q2 q2 => ?_⟩, fun c1 => fin _ fun Q2 q2 => ?_⟩
  · have s1 : (x2 - 1).toInt = x2.toInt - 1 := cr_sub1 (by omega)
    rw [s1] at fin
    refine ⟨fun c3 => ?_, fun c3 => fin _ fun Q2 q2 => ?_⟩
    · have n6 : x2.toNatClampNeg < 7 := by show x2.toInt.toNat < 7; omega
      have n1 : 1 ≤ x2.toNatClampNeg := by show 1 ≤ x2.toInt.toNat; omega
      have p6 : x1.toNatClampNeg < x2.toNatClampNeg := by show x1.toInt.toNat < x2.toInt.toNat; omega
      have hF := cr_tabF _ n6
      have p2 : 2 ^ x2.toNatClampNeg ≤ 64 := by
        have : ∀ n, n < 7 → 2 ^ n ≤ 64 := by decide
        exact this _ n6
      have es : f_yX9_shareOf τ x1 x2 I = f_yX5_sumOverOrders τ x1 x2 I := by
        unfold f_yX9_shareOf f_yX5_sumOverOrders
        exact cr_sumS_c h.spe _
      have bs := cr_sumS_b h.spb n6 p6 (2 ^ x2.toNatClampNeg) (Nat.le_refl _) p2
      have bs : -10000000 ≤ (f_yX5_sumOverOrders τ x1 x2 I).toInt ∧ (f_yX5_sumOverOrders τ x1 x2 I).toInt ≤ 10000000 := by
        unfold f_yX5_sumOverOrders
        omega
      have pS : p_yX5_sumOverOrders τ x1 x2 I := ⟨c1.1, c3, c2.2⟩
      have pS9 : p_yX9_shareOf τ x1 x2 I := ⟨c1.1, c3, c2.2⟩
      have pF : p_yX9_factorial τ x2 I := ⟨by omega, c2.2⟩
      have eF : f_yX9_factorial τ x2 I = cr_tab 0 x2.toNatClampNeg := rfl
      have pg : ∀ v, p_yX5_greatestDivisor τ v (cr_tab 0 x2.toNatClampNeg) I := fun v => ⟨hF.1, by omega⟩
      have g0 : ∀ v, ¬ f_yX5_greatestDivisor τ v (cr_tab 0 x2.toNatClampNeg) I = 0 := fun v => cr_gcd0 hF
      have g9 : ∀ v, ¬ f_yX9_divisor τ v (cr_tab 0 x2.toNatClampNeg) I = 0 := fun v => cr_gcd0 hF
      have pd : p_yX9_divisor τ (f_yX5_sumOverOrders τ x1 x2 I) (cr_tab 0 x2.toNatClampNeg) I := ⟨by omega, by omega⟩
      rw [es, eF] at fin
      have t3 : ∀ i : Nat, i < 3 → 0 ≤ (Int32.ofNat i).toInt ∧ (Int32.ofNat i).toInt ≤ 2 := by decide
      refine ⟨fun c4 => fin _ fun Q2 q2 => ⟨fun d => absurd c2 d, fun _ => ⟨fun d => absurd d (by omega), fun _ => ⟨fun d => absurd c2 d, fun _ => ⟨fun d => absurd ⟨c1.1, by omega⟩ d, fun _ => ⟨fun _ => q2, fun d => absurd c1 d⟩⟩⟩⟩⟩, fun c4 => ?_, fun c4 => ?_, fun c4 => ?_⟩
      · subst c4
        refine ⟨⟨pS, fun v hv => ⟨⟨by omega, by omega⟩, pg v, g0 v, trivial⟩⟩, fin _ fun Q2 q2 => ⟨fun d => absurd c2 d, fun _ => ⟨fun _ => ⟨fun _ => ⟨fun _ => ⟨pS9, fun v hv => ?_⟩, fun d => absurd d (by decide)⟩, fun d => absurd ⟨c1.1, by omega⟩ d⟩, fun d => absurd (t3 0 (by decide)) d⟩⟩⟩
        subst hv
        refine ⟨pF, pd, fun v2 hv2 => ⟨fun d => absurd rfl d, fun _ => ?_⟩⟩
        subst hv2
        exact ⟨g9 _, q2⟩
      · subst c4
        refine ⟨⟨⟨by omega, by omega⟩, fun v hv => by subst hv; exact ⟨pS, pg _, g0 _, trivial⟩⟩, fin _ fun Q2 q2 => ⟨fun d => absurd c2 d, fun _ => ⟨fun _ => ⟨fun _ => ⟨fun _ => ⟨pS9, fun v hv => ?_⟩, fun d => absurd d (by decide)⟩, fun d => absurd ⟨c1.1, by omega⟩ d⟩, fun d => absurd (t3 1 (by decide)) d⟩⟩⟩
        subst hv
        refine ⟨pF, pd, fun v2 hv2 => ⟨fun _ => ?_, fun d => absurd d (by decide)⟩⟩
        subst hv2
        exact ⟨pF, g9 _, q2⟩
      · subst c4
        have ec : f_yX9_coins τ x1 x2 I = f_yX5_coins τ x1 x2 I := by
          unfold f_yX9_coins f_yX5_coins
          have e1 : (fun q => cr_sumS (fun p a => I 226 (6 * p + a)) q x2.toNatClampNeg (2 ^ x2.toNatClampNeg)) = fun q => cr_sumS (fun p a => I (179 + p) a) q x2.toNatClampNeg (2 ^ x2.toNatClampNeg) := funext fun q => cr_sumS_c h.spe _
          rw [e1, cr_spS_c h.spe 6 (by omega)]
          refine cr_coinR_c p6 fun q hq => ?_
          have bq := cr_sumS_b h.spb n6 hq (2 ^ x2.toNatClampNeg) (Nat.le_refl _) p2
          obtain ⟨a, b⟩ := cr_flo (τ := τ) (I := I) (n := x2.toNatClampNeg) (v := cr_sumS (fun p a => I (179 + p) a) q x2.toNatClampNeg (2 ^ x2.toNatClampNeg)) ⟨n1, by omega⟩ (by omega)
          exact ⟨a.symm, b.symm⟩
        refine ⟨⟨c1.1, c3, c2.2⟩, fin _ fun Q2 q2 => ⟨fun d => absurd c2 d, fun _ => ⟨fun _ => ⟨fun _ => ⟨fun d => absurd rfl d, fun _ => ⟨⟨c1.1, c3, c2.2⟩, ?_⟩⟩, fun d => absurd ⟨c1.1, by omega⟩ d⟩, fun d => absurd (t3 2 (by decide)) d⟩⟩⟩
        rw [ec]
        exact q2
    · refine ⟨fun d => absurd c2 d, fun _ => ⟨fun _ => ⟨fun d => absurd d (by omega), fun _ => q2⟩, fun _ => ⟨fun d => absurd c2 d, fun _ => ⟨fun _ => q2, fun d => absurd d (by omega)⟩⟩⟩⟩
  · exact ⟨fun _ => ⟨fun _ => ⟨fun _ => q2, fun d => absurd c1 d⟩, fun d => absurd d c2⟩, fun d => absurd d c2⟩
  · by_cases c2 : 1 ≤ x2.toInt ∧ x2.toInt ≤ 6
    · have s1 : (x2 - 1).toInt = x2.toInt - 1 := cr_sub1 (by omega)
      rw [s1]
      exact ⟨fun d => absurd c2 d, fun _ => ⟨fun _ => ⟨fun d => absurd d (by omega), fun _ => q2⟩, fun _ => ⟨fun d => absurd c2 d, fun _ => ⟨fun _ => q2, fun d => absurd d (by omega)⟩⟩⟩⟩
    · exact ⟨fun _ => ⟨fun _ => ⟨fun d => absurd d c1, fun _ => q2⟩, fun d => absurd d c2⟩, fun d => absurd d c2⟩
