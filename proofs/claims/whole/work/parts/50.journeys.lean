/-! JOURNEYS -/
theorem cr_Rel.jo8 {τ : Nat → Nat} {I J : cr_I} (h : cr_Rel τ I) (f : cr_fr 175 176 I J) : cr_Rel τ J := h.fr fun b k hb => f b k (by unfold cr_rl rl_tx rl_mk rl_tb rl_tm rl_ro rl_se rl_pu rl_lo rl_hi rl_st rl_jo rl_sp rl_ck at hb; omega)
theorem cr_Rel.jo9 {τ : Nat → Nat} {I J : cr_I} (h : cr_Rel τ I) (f : cr_fr 243 244 I J) : cr_Rel τ J := h.fr fun b k hb => f b k (by unfold cr_rl rl_tx rl_mk rl_tb rl_tm rl_ro rl_se rl_pu rl_lo rl_hi rl_st rl_jo rl_sp rl_ck at hb; omega)
theorem cr_ledS_m {fr to hr mw mw' : Nat → Int32} {j n : Nat} {q : Int32} (hj : j < n) (e : ∀ i, i < n → mw i = mw' i) : ∀ k, k ≤ n → cr_ledS fr to hr mw j q k = cr_ledS fr to hr mw' j q k
  | 0, _ => rfl
  | k + 1, hk => by rw [cr_ledS, cr_ledS, cr_ledS_m hj e k (by omega), e k (by omega), e j hj]
theorem cr_rowS_m {n : Nat} {fr to hr mw mw' : Nat → Int32} {sp : Int32} {j : Nat} (hj : j < n) (e : ∀ i, i < n → mw i = mw' i) : ∀ m, cr_rowS n fr to hr mw sp j m = cr_rowS n fr to hr mw' sp j m
  | 0 => rfl
  | m + 1 => by
    rw [cr_rowS, cr_rowS, cr_rowS_m hj e m]
    unfold cr_burnS
    rw [cr_ledS_m hj e n (Nat.le_refl _), e j hj]
theorem cr_costS_m {n : Nat} {fr to fs hr mw mw' : Nat → Int32} {sp lt : Int32} (e : ∀ i, i < n → mw i = mw' i) : ∀ j, j ≤ n → cr_costS n fr to fs hr mw sp lt j = cr_costS n fr to fs hr mw' sp lt j
  | 0, _ => rfl
  | j + 1, hj => by rw [cr_costS, cr_costS, cr_costS_m e j (by omega), cr_rowS_m (by omega) e]
theorem cr_jq {τ : Nat → Nat} {I J : cr_I} (h : cr_Rel τ I) (f : cr_fr 175 176 I J) : cr_mjok J ∧ cr_mjn J = cr_jn I ∧ J 223 = I 172 ∧ J 224 = I 173 ∧ (∀ g, cr_mjcF J g = cr_jcF I g) ∧ ((0 ≤ (J 214 3).toInt ∧ (J 214 3).toInt ≤ 9) ∧ (0 ≤ (J 214 4).toInt ∧ (J 214 4).toInt ≤ 9)) ∧ J 200 34 = I 169 0 := by
  have hJ := h.jo8 f
  obtain ⟨h0, htx, hmk, htb, hro, hse, hpu, hlo, hhi, hst, hjo, hsp, hck⟩ := id h
  obtain ⟨g0, gtx, gmk, gtb, gro, gse, gpu, glo, ghi, gst, gjo, gsp, gck⟩ := hJ
  have r : ∀ b, b < 175 → J b = I b := fun b hb => funext fun k => f b k (by omega)
  obtain ⟨⟨q1, q2⟩, q3, q4, q5, q6, q7, q8, q9⟩ := gjo
  rw [r 170 (by omega)] at q5
  rw [r 171 (by omega)] at q6
  rw [r 172 (by omega)] at q7
  rw [r 173 (by omega)] at q8
  rw [r 174 (by omega)] at q9
  have e34 : J 200 34 = I 169 0 := q4.trans (f 169 0 (by omega))
  have en : cr_mjn J = cr_jn I := by unfold cr_mjn cr_jn; rw [e34]
  have es : J 214 = I 130 := gse.1.trans (r 130 (by omega))
  obtain ⟨⟨i1, i2⟩, i3, -⟩ := hjo
  refine ⟨⟨⟨?_, ?_⟩, fun m hm => ?_⟩, en, q7, q8, fun g => ?_, ?_, e34⟩
  · rw [e34]; exact i1
  · rw [en, q5, q6, q9]; exact i2
  · rw [(gmk m hm).2.1]
    exact (gmk m hm).1.1
  · unfold cr_mjcF cr_jcF
    rw [en, q5, q6, q7, es]
    refine cr_costS_m (fun j hj => ?_) _ (Nat.le_refl _)
    unfold cr_mjmw cr_jmw
    rw [q9]
    have hm := (i2.2 j hj).2
    have lm : (I 174 j).toNatClampNeg < 4 := by
      show (I 174 j).toInt.toNat < 4
      omega
    rw [f 201 _ (by omega)]
    exact (hmk _ lm).2.1
  · rw [es]
    exact ⟨hse.2.2.2.2.1, hse.2.2.2.2.2⟩
theorem S_judge {x1 : Int32} : cr_S T_yX8_judge T_yX9_judge [.int x1] := by
  intro τ I K h hk
  have h0 := h.1
  refine ⟨τ, x1, rfl, h0, rfl, h.2.2.2.2.2.2.2.2.2.2.1.1, fun r J q => ?_⟩
  obtain ⟨f, q⟩ := q
  have f' : cr_fr 175 176 I J := f.wd (by omega) (by omega)
  obtain ⟨j1, j2, j3, j4, j5, -, -⟩ := cr_jq h f'
  refine hk r J τ fun K2 k2 => ⟨τ, x1, rfl, h0, rfl, j1, fun r2 J2 q2 => ?_⟩
  obtain ⟨f2, q2⟩ := q2
  have hJ2 := (h.jo8 f').jo9 (f2.wd (by omega) (by omega))
  rw [j2, j3, j4, j5] at q2
  have er : r2 = r := by
    rcases q with ⟨a1, a2⟩ | ⟨⟨i, a1, a2⟩, a3⟩
    · rcases q2 with ⟨b1, b2⟩ | ⟨⟨i, b1, b2⟩, b3⟩
      · rw [a2, b2]
      · exact absurd (a1 i b1) b2
    · rcases q2 with ⟨b1, b2⟩ | ⟨-, b3⟩
      · exact absurd (b1 i a1) a2
      · rw [a3, b3]
  rw [er]
  exact k2 _ hJ2
theorem cr_bsS_c {cF cF' : (Nat → Int32) → Int32} {sq sq' : Nat → Nat → Int32} {n : Nat} (e : ∀ g, cF g = cF' g) (ec : ∀ g g' : Nat → Int32, (∀ i, i < n → g i = g' i) → cF' g = cF' g') (es : ∀ k i, i < n → sq k i = sq' k i) : ∀ k, (cr_bsS cF sq k).1 = (cr_bsS cF' sq' k).1 ∧ ∀ i, i < n → (cr_bsS cF sq k).2 i = (cr_bsS cF' sq' k).2 i
  | 0 => ⟨(e _).trans (ec _ _ (es 0)), fun i hi => es 0 i hi⟩
  | k + 1 => by
    obtain ⟨a, b⟩ := cr_bsS_c e ec es k
    have c : cF (sq (k + 1)) = cF' (sq' (k + 1)) := (e _).trans (ec _ _ (es (k + 1)))
    rw [cr_bsS, cr_bsS, c, a]
    by_cases q : cF' (sq' (k + 1)) < (cr_bsS cF' sq' k).1
    · rw [if_pos q, if_pos q]
      exact ⟨rfl, es (k + 1)⟩
    · rw [if_neg q, if_neg q]
      exact ⟨a, b⟩
theorem S_best {x1 : Int32} : cr_S T_yX8_best T_yX9_best [.int x1] := by
  intro τ I K h hk
  have h0 := h.1
  have hjo := h.2.2.2.2.2.2.2.2.2.2.1
  have f0 : cr_fr 175 176 I I := fun _ _ _ => rfl
  have nine : ∀ (J : cr_I) (r : Int32) (K2 : cr_K), cr_fr 175 176 I J → (x1.toInt < -1 → r = -3) → (¬ x1.toInt < -1 → (I 169 0).toInt ≤ x1.toInt → r = -1) → (¬ x1.toInt < -1 → ¬ (I 169 0).toInt ≤ x1.toInt → x1 = -1 → r = (cr_jbs I).1) → (¬ x1.toInt < -1 → ¬ (I 169 0).toInt ≤ x1.toInt → ¬ x1 = -1 → r = (cr_jbs I).2 x1.toNatClampNeg) → (∀ I2, cr_Rel τ I2 → K2 (some (.int r)) I2 (cr_rf τ)) → T_yX9_best [.ref 200, .int x1] J (cr_rf τ) K2 := by
    intro J r K2 f r1 r2 r3 r4 k2
    obtain ⟨j1, j2, j3, j4, j5, j6, j7⟩ := cr_jq h f
    refine ⟨τ, x1, rfl, h0, rfl, ⟨j1, ?_, j6.1, j6.2⟩, fun r' J2 q => ?_⟩
    · rw [j2, j3, j4]; exact hjo.2.1
    · obtain ⟨f2, er⟩ := q
      have hJ2 := (h.jo8 f).jo9 f2
      have bs := cr_bsS_c (cF := cr_mjcF J) (cF' := cr_jcF I) (sq := cr_sq (I 172) (I 173) (cr_jn I) (cr_mjh0 J)) (sq' := cr_sq (I 172) (I 173) (cr_jn I) (cr_jh0 I)) (n := cr_jn I) j5 (fun g g' e => by unfold cr_jcF; exact cr_costS_c e _ (Nat.le_refl _)) (fun k i hi => cr_sq_c (fun i hi => by unfold cr_mjh0 cr_jh0; rw [j2, if_pos hi, if_pos hi, j3]) k i hi) (cr_chN (I 172) (I 173) (cr_jn I) - 1)
      have em : cr_mjbs J = cr_bsS (cr_mjcF J) (cr_sq (I 172) (I 173) (cr_jn I) (cr_mjh0 J)) (cr_chN (I 172) (I 173) (cr_jn I) - 1) := by
        unfold cr_mjbs
        rw [j2, j3, j4]
      have rr : r' = r := by
        rw [er, j7, em]
        by_cases c1 : x1.toInt < -1
        · rw [if_pos c1, r1 c1]
        · rw [if_neg c1]
          by_cases c2 : (I 169 0).toInt ≤ x1.toInt
          · rw [if_pos c2, r2 c1 c2]
          · rw [if_neg c2]
            by_cases c3 : x1 = -1
            · rw [if_pos c3, r3 c1 c2 c3]
              exact bs.1
            · rw [if_neg c3, r4 c1 c2 c3]
              refine bs.2 _ ?_
              show x1.toInt.toNat < (I 169 0).toInt.toNat
              have c3' : ¬ x1.toInt = -1 := fun z => c3 (cr_eq.mpr z)
              omega
      rw [rr]
      exact k2 _ hJ2
  refine ⟨τ, x1, fun r J => K (some (.int r)) J (cr_rf τ), rfl, h0, rfl, ?_, fun _ _ q => q⟩
  unfold t_yX8_best
  simp only [cr_le, cr_lt, zi_m1]
  have b5 := hjo.1.1
  refine ⟨fun c1 => ⟨fun c2 => ⟨⟨hjo.1, hjo.2.1⟩, fun r J q => ?_⟩, fun c2 => hk _ _ τ fun K2 k2 => nine I _ K2 f0 (fun z => by omega) (fun _ _ => rfl) (fun _ z => by omega) (fun _ z => by omega) k2⟩, fun c1 => hk _ _ τ fun K2 k2 => nine I _ K2 f0 (fun _ => rfl) (fun z => by omega) (fun z => by omega) (fun z => by omega) k2⟩
  obtain ⟨f, er, eh⟩ := q
  refine ⟨fun c3 => ?_, fun c3 => hk _ _ τ fun K2 k2 => nine J _ K2 f (fun z => by omega) (fun _ z => by omega) (fun _ _ _ => er) (fun _ _ z => absurd c3 z) k2⟩
  have c3' : ¬ x1.toInt = -1 := fun z => c3 (cr_eq.mpr z)
  have l5 : x1.toNatClampNeg < 5 := by
    show x1.toInt.toNat < 5
    omega
  exact ⟨by omega, hk _ _ τ fun K2 k2 => nine J _ K2 f (fun z => by omega) (fun _ z => by omega) (fun _ _ z => absurd z c3) (fun _ _ _ => eh _ l5) k2⟩
/-! CLOCKS -/
theorem cr_Rel.ck8 {τ : Nat → Nat} {I J : cr_I} (h : cr_Rel τ I) (f : cr_fr 193 199 I J) : cr_Rel τ J := h.fr fun b k hb => f b k (by unfold cr_rl rl_tx rl_mk rl_tb rl_tm rl_ro rl_se rl_pu rl_lo rl_hi rl_st rl_jo rl_sp rl_ck at hb; omega)
theorem cr_Rel.ck9 {τ : Nat → Nat} {I J : cr_I} (h : cr_Rel τ I) (f : cr_fr 245 246 I J) : cr_Rel τ J := h.fr fun b k hb => f b k (by unfold cr_rl rl_tx rl_mk rl_tb rl_tm rl_ro rl_se rl_pu rl_lo rl_hi rl_st rl_jo rl_sp rl_ck at hb; omega)
theorem cr_ckq {τ : Nat → Nat} {I J : cr_I} (h : cr_Rel τ I) (f : cr_fr 193 199 I J) : p_yX9_layOffs τ J ∧ (∀ x, cr_mfe J x ↔ fw_fe (cr_offs I) (I 185 4).toNatClampNeg (cr_cka I) (cr_ckb I) (cr_ckw I) x) ∧ J 228 = I 187 ∧ J 229 = I 188 := by
  have hJ := h.ck8 f
  obtain ⟨w1, k6, k1, k39, k43, q27, q28, q29, q30, q31, q32⟩ := hJ.2.2.2.2.2.2.2.2.2.2.2.2
  have r : ∀ b, b < 193 → J b = I b := fun b hb => funext fun k => f b k (by omega)
  rw [r 186 (by omega)] at q27
  rw [r 187 (by omega)] at q28
  rw [r 188 (by omega)] at q29
  rw [r 189 (by omega)] at q30
  rw [r 190 (by omega)] at q31
  rw [r 191 (by omega)] at q32
  have e4 : J 200 43 = I 185 4 := k43.trans (f 185 4 (by omega))
  refine ⟨?_, fun x => ?_, q28, q29⟩
  · unfold p_yX9_layOffs
    rw [q27, q28, q29, q30, q31, q32, e4]
    exact h.2.2.2.2.2.2.2.2.2.2.2.2.1
  · unfold cr_mfe
    have a1 : cr_moffs J = cr_offs I := funext fun c => by unfold cr_moffs cr_offs; rw [q27]
    have a2 : cr_mka J = cr_cka I := funext fun c => by unfold cr_mka cr_cka; rw [q28, q30]
    have a3 : cr_mkb J = cr_ckb I := funext fun c => by unfold cr_mkb cr_ckb; rw [q28, q31]
    have a4 : cr_mkw J = cr_ckw I := funext fun c => by unfold cr_mkw cr_ckw; rw [q29, q30, q31, q32]
    rw [a1, a2, a3, a4, e4]
theorem cr_ckf {τ : Nat → Nat} {I : cr_I} (h : cr_Rel τ I) : (cr_offs I 6 = 0 ∧ (∀ c, c < 6 → 0 ≤ cr_offs I c ∧ cr_offs I c ≤ 60)) ∧ ∀ k, k < (I 185 4).toNatClampNeg → cr_cka I k < 6 ∧ cr_ckb I k < 6 := by
  obtain ⟨⟨w1, w2, w3, w4⟩, k6, -⟩ := h.2.2.2.2.2.2.2.2.2.2.2.2
  refine ⟨⟨?_, fun c hc => w1 c hc⟩, fun k hk => ?_⟩
  · show (I 186 6).toInt = 0
    rw [k6]
    rfl
  · have l12 : k < 12 := by
      have : (I 185 4).toNatClampNeg = (I 185 4).toInt.toNat := rfl
      omega
    obtain ⟨u1, u2, -⟩ := w3 k l12
    have n1 : (I 189 k).toNatClampNeg < 12 := by show (I 189 k).toInt.toNat < 12; omega
    have n2 : (I 190 k).toNatClampNeg < 12 := by show (I 190 k).toInt.toNat < 12; omega
    have v1 := (w2 _ n1).1
    have v2 := (w2 _ n2).1
    unfold cr_cka cr_ckb
    refine ⟨?_, ?_⟩
    · show (I 187 (I 189 k).toNatClampNeg).toInt.toNat < 6
      omega
    · show (I 187 (I 190 k).toNatClampNeg).toInt.toNat < 6
      omega
/-- both lay the clocks together, or neither -/
theorem cr_ckr {τ : Nat → Nat} {I J J2 : cr_I} {r r2 : Int32} (h : cr_Rel τ I) (q : q_yX0_layTogether τ I r J) (q2 : q_yX9_layOffs τ J r2 J2) : cr_fr 193 199 I J ∧ cr_fr 245 246 J J2 ∧ ((r = 0 ∧ r2 = 0) ∨ (r = 1 ∧ r2 = 1 ∧ ∀ c, c < 6 → (J2 245 c).toInt = -(J 199 c).toInt ∧ (J2 246 c).toInt = (J (193 + c) 6).toInt ∧ (-60 ≤ (J2 245 c).toInt ∧ (J2 245 c).toInt ≤ 60) ∧ (-60 ≤ (J2 246 c).toInt ∧ (J2 246 c).toInt ≤ 60))) := by
  obtain ⟨f, hm, q⟩ := q
  obtain ⟨f2, q2⟩ := q2
  obtain ⟨-, fe, -, -⟩ := cr_ckq h f
  obtain ⟨⟨o6, o0⟩, hab⟩ := cr_ckf h
  refine ⟨f, f2, ?_⟩
  rcases q with ⟨e1, hd⟩ | ⟨e1, i, hi, hd⟩
  · obtain ⟨⟨g1, g2⟩, g3, g4⟩ := fw_good o6 (fun c hc => (o0 c hc).1) hab hd
    rcases q2 with ⟨e2, ⟨l1, l2⟩, l3, l4⟩ | ⟨-, l⟩
    · refine Or.inr ⟨e1, e2, fun c hc => ?_⟩
      have a1 := l2 _ ((fe _).mpr g1) c hc
      have a2 := g2 _ ((fe _).mp l1) c hc
      have a3 := l4 _ ((fe _).mpr g3) c hc
      have a4 := g4 _ ((fe _).mp l3) c hc
      have m1 : (J 199 c).toInt = cr_ckF I 6 c := hm 6 c (by omega) (by omega)
      have m2 : (J (193 + c) 6).toInt = cr_ckF I c 6 := hm c 6 (by omega) (by omega)
      have b1 := ((fe _).mp l1).1 c hc
      have b2 := ((fe _).mp l3).1 c hc
      have oc := o0 c hc
      have u1 : cr_lo J2 c = -(cr_ckF I 6 c) := Int.le_antisymm a1 a2
      have u2 : cr_hi J2 c = cr_ckF I c 6 := Int.le_antisymm a4 a3
      have u1' : (J2 245 c).toInt = -(cr_ckF I 6 c) := u1
      have u2' : (J2 246 c).toInt = cr_ckF I c 6 := u2
      have b1' : -(cr_offs I c) ≤ (J2 245 c).toInt ∧ (J2 245 c).toInt ≤ cr_offs I c := b1
      have b2' : -(cr_offs I c) ≤ (J2 246 c).toInt ∧ (J2 246 c).toInt ≤ cr_offs I c := b2
      refine ⟨?_, ?_, ?_, ?_⟩ <;> omega
    · exact absurd ((fe _).mpr g1) (l _)
  · rcases q2 with ⟨e2, ⟨l1, l2⟩, l3, l4⟩ | ⟨e2, -⟩
    · have := fw_bad o6 hab ((fe _).mp l1) i hi
      exact absurd hd (by show ¬ cr_ckF I i i < 0; exact Int.not_lt.mpr this)
    · exact Or.inl ⟨e1, e2⟩
theorem S_agree : cr_S T_yX8_agree T_yX9_agree [] := by
  intro τ I K h hk
  have h0 := h.1
  have hck := h.2.2.2.2.2.2.2.2.2.2.2.2
  have n10 : ¬ (1 : Int32) = 0 := by decide
  refine ⟨τ, fun r J => K (some (.int r)) J (cr_rf τ), rfl, h0, rfl, ⟨⟨hck.1, by rw [hck.2.1]; rfl⟩, fun r J q => ?_⟩, fun _ _ q => q⟩
  have f := q.1
  obtain ⟨p9, -⟩ := cr_ckq h f
  have nine : ∀ (s : Int32) (K2 : cr_K), (r = 0 → s = 0) → (r = 1 → s = 1) → (∀ I2, cr_Rel τ I2 → K2 (some (.int s)) I2 (cr_rf τ)) → T_yX9_agree [.ref 200] J (cr_rf τ) K2 := by
    intro s K2 s0 s1 k2
    refine ⟨τ, fun r J => K2 (some (.int r)) J (cr_rf τ), rfl, h0, rfl, ⟨p9, fun r2 J2 q2 => ?_⟩, fun _ _ q => q⟩
    obtain ⟨-, f2, cs⟩ := cr_ckr h q q2
    have hJ2 := (h.ck8 f).ck9 f2
    rcases cs with ⟨a, b⟩ | ⟨a, b, -⟩
    · rw [s0 a] at k2
      exact ⟨fun _ => k2 _ hJ2, fun z => absurd b z⟩
    · rw [s1 a] at k2
      exact ⟨fun z => absurd (b.symm.trans z) n10, fun _ => k2 _ hJ2⟩
  refine ⟨fun z => hk _ _ τ fun K2 k2 => nine 0 K2 (fun _ => rfl) (fun y => absurd (y.symm.trans z) n10) k2, fun z => hk _ _ τ fun K2 k2 => nine 1 K2 (fun y => absurd y z) (fun _ => rfl) k2⟩
theorem S_span {x1 x2 : Int32} : cr_S T_yX8_span T_yX9_span [.int x1, .int x2] := by
  intro τ I K h hk
  have h0 := h.1
  have hck := h.2.2.2.2.2.2.2.2.2.2.2.2
  have n10 : ¬ (1 : Int32) = 0 := by decide
  have a0 := hck.2.2.1
  have a1 : (I 185 1 - 1).toInt = (I 185 1).toInt - 1 := cr_sub1 (by omega)
  have fin : ∀ (r : Int32) (J : cr_I), (∀ Q2 : Int32 → cr_I → Prop, (∀ I2, cr_Rel τ I2 → Q2 r I2) → t_yX9_span τ x1 x2 J Q2) → K (some (.int r)) J (cr_rf τ) := fun r J h9 => hk r J τ fun K2 k2 => ⟨τ, x1, x2, fun r' J' => K2 (some (.int r')) J' (cr_rf τ), rfl, h0, rfl, h9 _ k2, fun _ _ q => q⟩
  have e39 : ∀ J : cr_I, cr_Rel τ J → (J 200 39 - 1).toInt = (J 185 1).toInt - 1 := fun J hJ => by
    rw [hJ.2.2.2.2.2.2.2.2.2.2.2.2.2.2.2.1]
    exact cr_sub1 (by have := hJ.2.2.2.2.2.2.2.2.2.2.2.2.2.2.1; omega)
  refine ⟨τ, x1, x2, fun r J => K (some (.int r)) J (cr_rf τ), rfl, h0, rfl, ?_, fun _ _ q => q⟩
  unfold t_yX8_span
  simp only [f_yX8_isNoEvent, cr_out0, a1, zi_0, zi_1]
  unfold t_yX9_span at fin
  simp only [f_yX9_isEvent, cr_in0, Int32.toInt_toInt64, Classical.not_not, zl_0, zl_1] at fin
  refine ⟨fun c => fin _ _ fun Q2 q2 => ?_, fun c => ⟨fun c2 => fin _ _ fun Q2 q2 => ?_, fun c2 => ⟨⟨hck.1, by rw [hck.2.1]; rfl⟩, fun r J q => ?_⟩⟩⟩
  · rw [e39 I h]
    exact ⟨fun _ => q2 _ h, fun d => absurd d c⟩
  · rw [e39 I h]
    exact ⟨fun d => absurd c d, fun _ => ⟨fun _ => q2 _ h, fun d => absurd d c2⟩⟩
  · have f := q.1
    have hJ := h.ck8 f
    obtain ⟨p9, -, q28, q29⟩ := cr_ckq h f
    have j1 : (J 185 1).toInt = (I 185 1).toInt := by rw [f 185 1 (by omega)]
    have l12 : x1.toNatClampNeg < 12 := by
      show x1.toInt.toNat < 12
      omega
    have r12 : 0 ≤ x1.toInt ∧ x1.toInt < 12 := by omega
    obtain ⟨ec, et⟩ := hck.1.2.1 _ l12
    have j187 : J 187 x1.toNatClampNeg = I 187 x1.toNatClampNeg := f 187 _ (by omega)
    have j188 : J 188 x1.toNatClampNeg = I 188 x1.toNatClampNeg := f 188 _ (by omega)
    have l6 : (I 187 x1.toNatClampNeg).toNatClampNeg < 6 := by
      show (I 187 x1.toNatClampNeg).toInt.toNat < 6
      omega
    have r7 : 0 ≤ (J 187 x1.toNatClampNeg).toInt ∧ (J 187 x1.toNatClampNeg).toInt < 7 := by rw [j187]; omega
    have nine : ∀ (s : Int32) (Q2 : Int32 → cr_I → Prop), (∀ J2 : cr_I, r = 1 → (∀ c, c < 6 → (J2 245 c).toInt = -(J 199 c).toInt ∧ (J2 246 c).toInt = (J (193 + c) 6).toInt ∧ (-60 ≤ (J2 245 c).toInt ∧ (J2 245 c).toInt ≤ 60) ∧ (-60 ≤ (J2 246 c).toInt ∧ (J2 246 c).toInt ≤ 60)) → s = I 188 x1.toNatClampNeg + (if x2 = 0 then J2 245 (I 187 x1.toNatClampNeg).toNatClampNeg else J2 246 (I 187 x1.toNatClampNeg).toNatClampNeg)) → (r = 0 → s = -2147483648) → (∀ I2, cr_Rel τ I2 → Q2 s I2) → (¬ (0 ≤ x1.toInt ∧ x1.toInt ≤ (J 200 39 - 1).toInt) → Q2 (-2147483648) J) ∧ ((0 ≤ x1.toInt ∧ x1.toInt ≤ (J 200 39 - 1).toInt) → (¬ (0 ≤ x2.toInt ∧ x2.toInt ≤ 1) → Q2 (-2147483648) J) ∧ ((0 ≤ x2.toInt ∧ x2.toInt ≤ 1) → p_yX9_layOffs τ J ∧ ∀ (r1 : Int32) (J1 : cr_I), q_yX9_layOffs τ J r1 J1 → (¬ r1 = 0 → (0 ≤ x1.toInt ∧ x1.toInt < 12) ∧ (¬ x2 = 0 → (0 ≤ x1.toInt ∧ x1.toInt < 12) ∧ (0 ≤ (J1 228 x1.toNatClampNeg).toInt ∧ (J1 228 x1.toNatClampNeg).toInt < 6) ∧ True) ∧ (x2 = 0 → (0 ≤ x1.toInt ∧ x1.toInt < 12) ∧ (0 ≤ (J1 228 x1.toNatClampNeg).toInt ∧ (J1 228 x1.toNatClampNeg).toInt < 6) ∧ True) ∧ Q2 (J1 229 x1.toNatClampNeg + if x2 = 0 then J1 245 (J1 228 x1.toNatClampNeg).toNatClampNeg else J1 246 (J1 228 x1.toNatClampNeg).toNatClampNeg) J1) ∧ (r1 = 0 → Q2 (-2147483648) J1))) := by
      intro s Q2 s1 s0 k2
      rw [e39 J hJ, j1]
      refine ⟨fun d => absurd c d, fun _ => ⟨fun d => absurd c2 d, fun _ => ⟨p9, fun r2 J2 q2 => ?_⟩⟩⟩
      obtain ⟨-, f2, cs⟩ := cr_ckr h q q2
      have hJ2 := hJ.ck9 f2
      have u8 : J2 228 x1.toNatClampNeg = I 187 x1.toNatClampNeg := (f2 228 _ (by omega)).trans (congrFun q28 _)
      have u9 : J2 229 x1.toNatClampNeg = I 188 x1.toNatClampNeg := (f2 229 _ (by omega)).trans (congrFun q29 _)
      rw [u8, u9]
      rcases cs with ⟨a, b⟩ | ⟨a, b, g⟩
      · rw [s0 a] at k2
        exact ⟨fun z => absurd b z, fun _ => k2 _ hJ2⟩
      · have es := s1 J2 a g
        rw [← es]
        exact ⟨fun _ => ⟨r12, fun _ => ⟨r12, ec, trivial⟩, fun _ => ⟨r12, ec, trivial⟩, k2 _ hJ2⟩, fun z => absurd (b.symm.trans z) n10⟩
    refine ⟨fun z => ⟨fun z2 => ⟨⟨r12, r12, r7, trivial⟩, fin _ J fun Q2 q2 => nine _ Q2 (fun J2 e g => ?_) (fun e => absurd e z) q2⟩, fun z2 => ⟨⟨r12, r12, r7, trivial⟩, fin _ J fun Q2 q2 => nine _ Q2 (fun J2 e g => ?_) (fun e => absurd e z) q2⟩⟩, fun z => fin _ J fun Q2 q2 => nine _ Q2 (fun J2 e => absurd (e.symm.trans z) n10) (fun _ => rfl) q2⟩
    · obtain ⟨g1, g2, g3, g4⟩ := g _ l6
      unfold f_yX0_latest
      rw [j187, j188, if_neg z2]
      congr 1
      exact cr_eq.mpr g2.symm
    · obtain ⟨g1, g2, g3, g4⟩ := g _ l6
      unfold f_yX0_earliest
      rw [j187, j188, if_pos z2, cr_eq, cr_sub (by omega), cr_add (by omega)]
      omega
