/-! two states that say the same of those who are there -/
def cr_agr (p : cr_par) (t : Nat) (s s' : cr_RS) : Prop := (∀ i, i < pn p → rS s i = rS s' i ∧ (1 ≤ i → rG s i = rG s' i) ∧ rP s i = rP s' i) ∧ (∀ i u, i < pn p → u < t → rW s u i = rW s' u i) ∧ (0 < pL p → pL p < pn p → pfr p < t → rX s = rX s')
theorem cr_agr.X {p : cr_par} {t : Nat} {s s' : cr_RS} (h : cr_agr p t s s') (h0 : 0 < pL p) (h1 : pL p < pn p) (h2 : pfr p ≤ t) : cr_sgm p t s = cr_sgm p t s' := by
  unfold cr_sgm
  by_cases q : t = pfr p
  · rw [if_pos ⟨q, h0, h1⟩, if_pos ⟨q, h0, h1⟩, (h.1 _ h1).2.1 h0]
  · rw [if_neg (fun z => q z.1), if_neg (fun z => q z.1)]
    exact h.2.2 h0 h1 (by omega)
theorem cr_agr.H {p : cr_par} {t dl : Nat} {lost : Int32} {s s' : cr_RS} (h : cr_agr p t s s') (hn : 0 < pn p) (hd : 1 ≤ dl) : cr_Ht dl lost t s = cr_Ht dl lost t s' := by
  unfold cr_Ht
  cases hl : cr_last lost (t + 1 - dl) with
  | none => rfl
  | some u =>
    have := cr_last_lt _ hl
    show (if rW s u 0 < 0 then -(rW s u 0) else 0) = if rW s' u 0 < 0 then -(rW s' u 0) else 0
    rw [h.2.1 0 u hn (by omega)]
theorem cr_agr.W {p : cr_par} {t dl : Nat} {lost : Int32} {s s' : cr_RS} (h : cr_agr p t s s') (hd : 1 ≤ dl) {i : Nat} (hi : i < pn p) : cr_Wt p dl lost t s i = cr_Wt p dl lost t s' i := by
  unfold cr_Wt
  by_cases q0 : i = 0
  · rw [if_pos q0, if_pos q0]
  · rw [if_neg q0, if_neg q0, h.H (by omega) hd, (h.1 i hi).1, (h.1 i hi).2.1 (by omega), (h.1 (i - 1) (by omega)).1]
    by_cases q : cr_strS p i t
    · have hq := q
      obtain ⟨a, b, c, d⟩ := hq
      rw [if_pos q, if_pos q, h.X a (by omega) c]
    · rw [if_neg q, if_neg q]
theorem cr_agr.Wh {p : cr_par} {t dl : Nat} {lost : Int32} {s s' : cr_RS} (h : cr_agr p t s s') (hd : 1 ≤ dl) {i u : Nat} (hi : i < pn p) (hu : u ≤ t) : cr_Wh p dl lost t s u i = cr_Wh p dl lost t s' u i := by
  unfold cr_Wh
  by_cases q : u = t
  · rw [if_pos q, if_pos q, h.W hd hi]
  · rw [if_neg q, if_neg q, h.2.1 i u hi (by omega)]
theorem cr_agr.S {p : cr_par} {t dl : Nat} {lost : Int32} {s s' : cr_RS} (h : cr_agr p t s s') (hd : 1 ≤ dl) {i : Nat} (hi : i < pn p) : cr_S1 p dl lost t s i = cr_S1 p dl lost t s' i := by
  unfold cr_S1
  rw [(h.1 i hi).1, (h.1 i hi).2.2, h.Wh hd hi (Nat.sub_le _ _)]
theorem cr_agr.X1 {p : cr_par} {t dl : Nat} {lost : Int32} {s s' : cr_RS} (h : cr_agr p t s s') (hd : 1 ≤ dl) (h0 : 0 < pL p) (h1 : pL p < pn p) (h2 : pfr p ≤ t) : cr_X1 p dl lost t s = cr_X1 p dl lost t s' := by
  unfold cr_X1
  rw [h.X h0 h1 h2, h.S hd h1]
theorem cr_agr.stp {p : cr_par} {t dl : Nat} {lost : Int32} {s s' : cr_RS} (h : cr_agr p t s s') (hd : 1 ≤ dl) : cr_agr p (t + 1) (cr_stp p dl lost t s) (cr_stp p dl lost t s') := by
  refine ⟨fun i hi => ⟨h.S hd hi, fun hi1 => ?_, ?_⟩, fun i u hi hu => h.Wh hd hi (by omega), fun h0 h1 h2 => h.X1 hd h0 h1 (by omega)⟩
  · show cr_G1 p dl lost t s i = cr_G1 p dl lost t s' i
    unfold cr_G1
    rw [(h.1 i hi).2.1 hi1, h.S hd hi, h.S hd (show i - 1 < pn p by omega)]
  · show cr_P1 p dl lost t s i = cr_P1 p dl lost t s' i
    unfold cr_P1
    rw [(h.1 i hi).2.2, h.S hd hi]
theorem cr_agr.tcc {p : cr_par} {t : Nat} {s s' : cr_RS} (h : cr_agr p (t + 1) s s') : cr_firstS (cr_tcc p t s) 1 (pn p - 1) = cr_firstS (cr_tcc p t s') 1 (pn p - 1) := by
  refine cr_firstS_c _ _ (fun i hi1 hi => ?_)
  unfold cr_tcc
  rw [(h.1 i (by omega)).2.1 hi1]
  by_cases q : cr_strS p i t
  · have hq := q
    obtain ⟨a, b, c, d⟩ := hq
    rw [h.2.2 a (by omega) (by omega)]
  · rw [decide_eq_false q, Bool.false_and, Bool.false_and]
/-! the class's memory and the run -/
def cr_cv (p : cr_par) (g : Int32) (dl : Nat) (lost : Int32) (t : Nat) (J : cr_I) : Prop := (∀ i u, i < pn p → u ≤ t → J (139 + i) u = rS (cr_rs p g dl lost u) i ∧ (1 ≤ i → J (146 + i) u = rG (cr_rs p g dl lost u) i) ∧ J (153 + i) u = rP (cr_rs p g dl lost u) i) ∧ (∀ i u, i < pn p → u < t → J (160 + i) u = cr_Wt p dl lost u (cr_rs p g dl lost u) i) ∧ (∀ u, u < t → J 166 u = cr_Ht dl lost u (cr_rs p g dl lost u) ∧ J 167 u = cr_Ot dl lost u) ∧ (J 137 6, J 137 7) = cr_tc p g dl lost t ∧ (0 < pL p → pL p < pn p → pfr p < t → J 137 9 = rX (cr_rs p g dl lost t))
theorem cr_cv.agr {p : cr_par} {g : Int32} {dl : Nat} {lost : Int32} {t : Nat} {J : cr_I} (h : cr_cv p g dl lost t J) : cr_agr p t (cr_ms J t) (cr_rs p g dl lost t) := by
  refine ⟨fun i hi => h.1 i t hi (Nat.le_refl _), fun i u hi hu => ?_, h.2.2.2.2⟩
  rw [cr_rs_W t hu]
  exact h.2.1 i u hi hu
theorem cr_cv.step {p : cr_par} {g : Int32} {dl : Nat} {lost : Int32} {t n : Nat} {I J : cr_I} (h : cr_cv p g dl lost t I) (hn : pn p = n) (hn6 : n ≤ 6) (hn1 : 0 < n) (hd : 1 ≤ dl) (hq : cr_qp p dl lost t n I J) : cr_cv p g dl lost (t + 1) J := by
  obtain ⟨hf, hS, hX, ⟨hH, hO⟩, hT⟩ := hq
  have ha := h.agr
  subst hn
  have h6 : J 137 6 = (cr_tc p g dl lost (t + 1)).1 ∧ J 137 7 = (cr_tc p g dl lost (t + 1)).2 := by
    have hst := (ha.stp (lost := lost) hd).tcc
    rw [hst] at hT
    have hI := h.2.2.2.1
    have hI6 : I 137 6 = (cr_tc p g dl lost t).1 := congrArg Prod.fst hI
    have hI7 : I 137 7 = (cr_tc p g dl lost t).2 := congrArg Prod.snd hI
    rw [cr_tc]
    rw [hI6] at hT
    by_cases q : (cr_tc p g dl lost t).1 = -1
    · rw [if_pos q] at hT ⊢
      rw [show cr_rs p g dl lost (t + 1) = cr_stp p dl lost t (cr_rs p g dl lost t) from rfl]
      cases hfi : cr_firstS (cr_tcc p t (cr_stp p dl lost t (cr_rs p g dl lost t))) 1 (pn p - 1) with
      | none =>
        rw [hfi] at hT
        have hT : (J 137 6, J 137 7) = ((cr_tc p g dl lost t).1, I 137 7) := hT
        exact ⟨congrArg Prod.fst hT, (congrArg Prod.snd hT).trans hI7⟩
      | some l =>
        rw [hfi] at hT
        exact ⟨congrArg Prod.fst hT, congrArg Prod.snd hT⟩
    · rw [if_neg q] at hT ⊢
      exact ⟨congrArg Prod.fst hT, (congrArg Prod.snd hT).trans hI7⟩
  refine ⟨fun i u hi hu => ?_, fun i u hi hu => ?_, fun u hu => ?_, ?_, fun h0 h1 h2 => ?_⟩
  · by_cases e : u = t + 1
    · subst e
      obtain ⟨a, b, c, d⟩ := hS i hi
      refine ⟨a.trans (ha.S hd hi), fun hi1 => (b hi1).trans ?_, c.trans ?_⟩
      · exact ((ha.stp (lost := lost) hd).1 i hi).2.1 hi1
      · exact ((ha.stp (lost := lost) hd).1 i hi).2.2
    · rw [hf (139 + i) u (by unfold cr_Ppa; omega), hf (146 + i) u (by unfold cr_Ppa; omega), hf (153 + i) u (by unfold cr_Ppa; omega)]
      exact h.1 i u hi (by omega)
  · by_cases e : u = t
    · subst e
      exact (hS i hi).2.2.2.trans (ha.W hd hi)
    · rw [hf (160 + i) u (by unfold cr_Ppa; omega)]
      exact h.2.1 i u hi (by omega)
  · by_cases e : u = t
    · subst e
      exact ⟨hH.trans (ha.H hn1 hd), hO⟩
    · rw [hf 166 u (by unfold cr_Ppa; omega), hf 167 u (by unfold cr_Ppa; omega)]
      exact h.2.2.1 u (by omega)
  · rw [h6.1, h6.2]
  · exact hX.trans (ha.X1 hd h0 h1 (by omega))
/-! what lies below the run's own blocks -/
def cr_low (I J : cr_I) : Prop := ∀ b k, b < 137 → J b k = I b k
theorem cr_low.rok {τ : Nat → Nat} {I J : cr_I} (hτ : cr_tau τ) (h : cr_low I J) (hok : cr_rok τ I) : cr_rok τ J := by
  have hT : ∀ m, m < 4 → τ m + 24 ≤ 129 := fun m hm => by
    have := hτ.1 m (by omega)
    unfold cr_isT at this
    omega
  obtain ⟨h1, h2, h3, h4, h5, h6, h7⟩ := hok
  refine ⟨?_, ?_, ?_, fun i hi => ?_, fun m hm => ⟨?_, ?_⟩, ?_, fun k hk => ?_⟩
  · unfold cr_nok; rw [h 27 1 (by omega)]; exact h1
  · unfold cr_sok; rw [h 27 13 (by omega), h 27 14 (by omega), h 27 15 (by omega)]; exact h2
  · rw [h 27 5 (by omega), h 27 8 (by omega)]; exact h3
  · rw [h 129 i (by omega)]; exact h4 i hi
  · unfold cr_mkok; rw [h _ 0 (by omega), h _ 1 (by omega), h _ 2 (by omega), h _ 3 (by omega)]; exact (h5 m hm).1
  · have ht := (h5 m hm).2
    have hTm := hT m hm
    have h6 : (I (τ m) 0).toNatClampNeg ≤ 6 := by have := ht.1; show (I (τ m) 0).toInt.toNat ≤ 6; omega
    refine ⟨by rw [h _ 0 (by omega)]; exact ht.1, fun l hl => ?_⟩
    rw [h _ 0 (by omega)] at hl
    have htl := ht.2 l hl
    unfold cr_tlok at htl ⊢
    rw [h (τ m + 2) l (by omega)]
    refine ⟨htl.1, fun k hk => ?_⟩
    rw [h (τ m + 4 + l) k (by omega)]
    exact htl.2 k hk
  · rw [h 130 1 (by omega), h 27 16 (by omega)]; exact h6
  · rw [h 27 8 (by omega)] at hk
    rw [h 136 k (by omega)]; exact h7 k hk
theorem cr_low.n {I J : cr_I} (h : cr_low I J) : cr_cn0 J = cr_cn0 I := by unfold cr_cn0; rw [h 27 1 (by omega)]
theorem cr_low.par {τ : Nat → Nat} {I J : cr_I} (hτ : cr_tau τ) (h : cr_low I J) (hok : cr_rok τ I) : cr_cpar τ J = cr_cpar τ I := by
  have hT : ∀ m, m < 4 → τ m + 24 ≤ 129 := fun m hm => by
    have := hτ.1 m (by omega)
    unfold cr_isT at this
    omega
  have e1 := h.n
  have em : ∀ i, cr_cmk J i = cr_cmk I i := fun i => by unfold cr_cmk; rw [h 129 i (by omega)]
  have h6 := hok.1.un.2.2
  have er : ∀ b, b < 137 → J b = I b := fun b hb => funext fun k => h b k hb
  have hm0 := cr_cmk_lt hok (i := 0) (by decide)
  unfold cr_cpar
  rw [e1, em 0, h 130 1 (by omega), h _ 1 (show 29 + 25 * cr_cmk I 0 < 137 by omega), h _ 2 (show 29 + 25 * cr_cmk I 0 < 137 by omega), er 131 (by omega), er 132 (by omega), h 27 5 (by omega), er 133 (by omega), er 134 (by omega), er 135 (by omega), er 136 (by omega), h 27 8 (by omega), h 27 13 (by omega), h 27 14 (by omega), h 27 15 (by omega), h 27 16 (by omega)]
  have w1 : (fun i v => if i < cr_cn0 I then cr_bnd (J (29 + 25 * cr_cmk J i) 1) (J (29 + 25 * cr_cmk J i) 2) (cr_wbS (τ (cr_cmk J i)) J v) else 0) = (fun i v => if i < cr_cn0 I then cr_bnd (I (29 + 25 * cr_cmk I i) 1) (I (29 + 25 * cr_cmk I i) 2) (cr_wbS (τ (cr_cmk I i)) I v) else 0) := by
    funext i v
    by_cases q : i < cr_cn0 I
    · have hmi := cr_cmk_lt hok (i := i) (by omega)
      have hTm := hT _ hmi
      rw [if_pos q, if_pos q, em, h _ 1 (by omega), h _ 2 (by omega), cr_wbS_c (hok.2.2.2.2.1 _ hmi).2 (fun c k q1 q2 => h c k (by omega)) (fun r _ => rfl)]
    · rw [if_neg q, if_neg q]
  have w2 : (fun i => if i < cr_cn0 I then (J (29 + 25 * cr_cmk J i) 3).toNatClampNeg else 0) = (fun i => if i < cr_cn0 I then (I (29 + 25 * cr_cmk I i) 3).toNatClampNeg else 0) := by
    funext i
    by_cases q : i < cr_cn0 I
    · have hmi := cr_cmk_lt hok (i := i) (by omega)
      rw [if_pos q, if_pos q, em, h _ 3 (by omega)]
    · rw [if_neg q, if_neg q]
  have w3 : (fun i q => if i < cr_cn0 I then cr_slopeS (I 133) (I 134) (I 135) (I 136) (J (29 + 25 * cr_cmk J i) 0) q (I 27 8).toNatClampNeg else 40) = (fun i q => if i < cr_cn0 I then cr_slopeS (I 133) (I 134) (I 135) (I 136) (I (29 + 25 * cr_cmk I i) 0) q (I 27 8).toNatClampNeg else 40) := by
    funext i q
    by_cases z : i < cr_cn0 I
    · have hmi := cr_cmk_lt hok (i := i) (by omega)
      rw [if_pos z, if_pos z, em, h _ 0 (by omega)]
    · rw [if_neg z, if_neg z]
  rw [w1, w2, w3]
theorem cr_fr.lo {I J : cr_I} (h : cr_fr 137 168 I J) : cr_low I J := fun b k hb => h b k (Or.inl hb)
/-! driving -/
def p_yX4_drive (τ : Nat → Nat) (x2 x3 x4 : Int32) (I : cr_I) : Prop := cr_rok τ I ∧ (0 ≤ x3.toInt ∧ x3.toInt ≤ 4)
def q_yX4_drive (τ : Nat → Nat) (x2 x3 x4 : Int32) (I J : cr_I) : Prop := cr_fr 137 168 I J ∧ cr_cv (cr_cpar τ I) x2 (cr_dl x3) x4 32 J
theorem cr_dl1 {w : Int32} : 1 ≤ cr_dl w := by unfold cr_dl; split <;> omega
/-- the start -/
theorem cr_cv0 {τ : Nat → Nat} {x2 : Int32} {dl : Nat} {lost : Int32} {I J : cr_I} (hq : q_yX4_begin τ x2 I J) : cr_cv (cr_cpar τ I) x2 dl lost 0 J := by
  obtain ⟨⟨a, b⟩, c, d⟩ := hq
  refine ⟨fun i u hi hu => ?_, fun i u _ hu => absurd hu (Nat.not_lt_zero _), fun u hu => absurd hu (Nat.not_lt_zero _), by rw [a, b]; rfl, fun _ _ h => absurd h (Nat.not_lt_zero _)⟩
  have : u = 0 := by omega
  subst this
  obtain ⟨c1, c2, c3⟩ := c i hi
  exact ⟨c1, fun _ => c2, c3⟩
theorem cr_begF {I J : cr_I} (h : cr_F cr_PB I J) : cr_fr 137 168 I J := fun b k hb => h b k (by unfold cr_PB; omega)
theorem cr_passF {t : Nat} {I J : cr_I} (h : cr_F (cr_Ppa t) I J) : cr_fr 137 168 I J := fun b k hb => h b k (by unfold cr_Ppa; omega)
/-- a tick from such a memory -/
theorem cr_cv.pass {τ : Nat → Nat} {g x3 lost : Int32} {t : Nat} {I J : cr_I} (hτ : cr_tau τ) (hok : cr_rok τ I) (hw : 0 ≤ x3.toInt ∧ x3.toInt ≤ 4) (ht : t < 32) (hf : cr_fr 137 168 I J) (h : cr_cv (cr_cpar τ I) g (cr_dl x3) lost t J) : p_yX4_pass τ (nI t) x3 lost J ∧ ∀ L, q_yX4_pass τ (nI t) x3 lost J L → cr_fr 137 168 I L ∧ cr_cv (cr_cpar τ I) g (cr_dl x3) lost (t + 1) L := by
  have hlo := hf.lo
  have hokJ := hlo.rok hτ hok
  have hpok := hok.pok
  have hnn := hok.1.un
  have hn : cr_cn0 J = cr_cn0 I := hlo.n
  have hpn : pn (cr_cpar τ I) = cr_cn0 I := rfl
  refine ⟨⟨hokJ, ⟨by rw [cr_nt (by omega)]; omega, hw⟩, fun i hi => ?_, fun u hu => ?_⟩, fun L hq => ?_⟩
  · rw [cr_nc (by omega), (h.1 i t (by rw [hpn, ← hn]; exact hi) (Nat.le_refl _)).1]
    exact cr_rs_S hpok t i
  · rw [cr_nc (by omega)] at hu
    have e : J 160 u = cr_Wt (cr_cpar τ I) (cr_dl x3) lost u (cr_rs (cr_cpar τ I) g (cr_dl x3) lost u) 0 := h.2.1 0 u (by rw [hpn]; omega) hu
    rw [e]
    exact hpok.2.2.1 u
  · unfold q_yX4_pass at hq
    rw [hlo.par hτ hok, cr_nc (by omega), hn] at hq
    exact ⟨hf.tr (cr_passF hq.1), h.step hpn hnn.2.2 (by omega) cr_dl1 hq⟩
theorem bk_yX4_drive_0 {Γ : cr_G} {K : cr_K} {τ : Nat → Nat} {I : cr_I} {x2 : Int32} {x3 : Int32} {x4 : Int32} (hτ : cr_tau τ)  (h : cr_Ok yX4_drive cX4_drive 6 none (cr_rm0 4 99) K 247 247 Γ) (hyp : p_yX4_begin τ x2 I ∧ (∀ (J1 : cr_I), q_yX4_begin τ x2 I J1 → cr_V Γ 9 [.ref 137, .ref 27, .null, .int x3, .int x4, .int (0 : Int32)] [] J1 (cr_rf τ) 247)) : cr_V Γ 0 [.ref 137, .ref 27, .int x2, .int x3, .int x4, .null] [] I (cr_rf τ) 247 := by
  refine cr_aload_n h (j := 0) rfl rfl dX4_drive_0 ?_
  refine cr_aload_n h (j := 1) rfl rfl dX4_drive_1 ?_
  refine cr_iload_n h (j := 2) rfl rfl dX4_drive_2 ?_
  refine cr_callV h (c0 := 4) (T0 := TX4) C_yX4_begin cZ_yX4_begin wm_X4_45 wv_yX4_begin we_yX4_begin (by decide) rfl rfl (cr_rmS (by decide) (by decide)) (As := [.ref 27, .int x2]) rfl (Nat.le_of_ble_eq_true rfl) dX4_drive_3 ⟨τ, x2, rfl, hτ, rfl, hyp.1, fun J1 q1 => ?_⟩
  have hyp := hyp.2 J1 q1
  show cr_V Γ 6 [.ref 137, .ref 27, .int x2, .int x3, .int x4, .null] [] J1 (cr_rf τ) 247
  refine cr_iconst h (v := (0 : Int32)) (by decide) dX4_drive_6 ?_
  refine cr_istore h (by decide) rfl dX4_drive_7 ?_
  show cr_V Γ 9 [.ref 137, .ref 27, .int x2, .int x3, .int x4, .int (0 : Int32)] [] J1 (cr_rf τ) 247
  exact cr_weak [true, true, false, true, true, true] hyp
theorem bk_yX4_drive_9 {Γ : cr_G} {K : cr_K} {τ : Nat → Nat} {I : cr_I} {x3 : Int32} {x4 : Int32} {x5 : Int32} (hτ : cr_tau τ)  (h : cr_Ok yX4_drive cX4_drive 6 none (cr_rm0 4 99) K 247 247 Γ) (hyp : ((32 : Int32) ≤ x5 → K none I (cr_rf τ)) ∧ (¬ (32 : Int32) ≤ x5 → (p_yX4_pass τ x5 x3 x4 I ∧ (∀ (J2 : cr_I), q_yX4_pass τ x5 x3 x4 I J2 → (∀ v1 : Int32, v1 = x5 + (1 : Int32) → cr_V Γ 9 [.ref 137, .ref 27, .null, .int x3, .int x4, .int v1] [] J2 (cr_rf τ) 247))))) : cr_V Γ 9 [.ref 137, .ref 27, .null, .int x3, .int x4, .int x5] [] I (cr_rf τ) 247 := by
  refine cr_iload h rfl dX4_drive_9 ?_
  refine cr_bipush h (v := (32 : Int32)) (by decide) dX4_drive_11 ?_
  refine cr_icmp_ge h (tgt := 32) (by decide) dX4_drive_13 (fun c1 => ?_) (fun c1 => ?_)
  · have hyp := hyp.1 c1
    refine cr_vret h rfl rfl dX4_drive_32 ?_
    exact hyp
  · have hyp := hyp.2 c1
    refine cr_aload_n h (j := 0) rfl rfl dX4_drive_16 ?_
    refine cr_aload_n h (j := 1) rfl rfl dX4_drive_17 ?_
    refine cr_iload h rfl dX4_drive_18 ?_
    refine cr_iload_n h (j := 3) rfl rfl dX4_drive_20 ?_
    refine cr_iload h rfl dX4_drive_21 ?_
    refine cr_callV h (c0 := 4) (T0 := TX4) C_yX4_pass cZ_yX4_pass wm_X4_49 wv_yX4_pass we_yX4_pass (by decide) rfl rfl (cr_rmS (by decide) (by decide)) (As := [.ref 27, .int x5, .int x3, .int x4]) rfl (Nat.le_of_ble_eq_true rfl) dX4_drive_23 ⟨τ, x5, x3, x4, rfl, hτ, rfl, hyp.1, fun J2 q2 => ?_⟩
    have hyp := hyp.2 J2 q2
    show cr_V Γ 26 [.ref 137, .ref 27, .null, .int x3, .int x4, .int x5] [] J2 (cr_rf τ) 247
    refine cs_inc h (v := (1 : Int32)) 5 rfl (by decide) (by decide) rfl dX4_drive_26 (fun v1 ev1 => ?_)
    have hyp := hyp v1 ev1
    show cr_V Γ 29 [.ref 137, .ref 27, .null, .int x3, .int x4, .int v1] [] J2 (cr_rf τ) 247
    refine cr_goto h (tgt := 9) (by decide) dX4_drive_29 ?_
    exact cr_weak [true, true, false, true, true, true] hyp
abbrev T_yX4_drive : cr_T := fun vs I R K => ∃ (τ : Nat → Nat) (x2 : Int32) (x3 : Int32) (x4 : Int32), R = cr_rf τ ∧ cr_tau τ ∧ vs = [.ref 137, .ref 27, .int x2, .int x3, .int x4] ∧ p_yX4_drive τ x2 x3 x4 I ∧ ∀ J, q_yX4_drive τ x2 x3 x4 I J → K none J (cr_rf τ)
abbrev S_yX4_drive : Prop := cr_C yX4_drive cX4_drive 6 none (cr_rm0 4 99) 247 247 T_yX4_drive
theorem G_yX4_drive (H : ∀ (Γ : cr_G) (K : cr_K) (τ : Nat → Nat) (x2 : Int32) (x3 : Int32) (x4 : Int32) (I : cr_I), cr_tau τ → cr_Ok yX4_drive cX4_drive 6 none (cr_rm0 4 99) K 247 247 Γ → p_yX4_drive τ x2 x3 x4 I → (∀ J, q_yX4_drive τ x2 x3 x4 I J → K none J (cr_rf τ)) → cr_V Γ 0 [.ref 137, .ref 27, .int x2, .int x3, .int x4, .null] [] I (cr_rf τ) 247) : cr_C yX4_drive cX4_drive 6 none (cr_rm0 4 99) 247 247 T_yX4_drive := by
  refine cr_C.of (by decide +kernel) (fun vs I R K hT => ?_) (fun Γ K h vs I R hT => ?_)
  · obtain ⟨τ, x2, x3, x4, rfl, hτ, rfl, hp, hK⟩ := hT
    exact Nat.le_of_ble_eq_true rfl
  · obtain ⟨τ, x2, x3, x4, rfl, hτ, rfl, hp, hK⟩ := hT
    exact H Γ K τ x2 x3 x4 I hτ h hp hK
theorem C_yX4_drive : S_yX4_drive := G_yX4_drive (by
  intro Γ K τ x2 x3 x4 I hτ h hp hK
  obtain ⟨hok, hw⟩ := hp
  refine bk_yX4_drive_0 hτ h ⟨hok.1, fun J1 hq => ?_⟩
  refine cr_loop (fun t => ∀ J, cr_fr 137 168 I J → cr_cv (cr_cpar τ I) x2 (cr_dl x3) x4 t J → cr_V Γ 9 [.ref 137, .ref 27, .null, .int x3, .int x4, .int (nI t)] [] J (cr_rf τ) 247) 32 ?_ ?_ 0 (Nat.zero_le _) J1 (cr_begF hq.2.2) (cr_cv0 hq)
  · intro J hf hc
    exact bk_yX4_drive_9 hτ h ⟨fun _ => hK _ ⟨hf, hc⟩, fun z => absurd (by decide) z⟩
  · intro t ht ih J hf hc
    have hp := hc.pass hτ hok hw ht hf
    refine bk_yX4_drive_9 hτ h ⟨fun z => absurd z (nI_ge (a := t) (b := 32) ht (by omega)), fun _ => ⟨hp.1, fun J2 hq2 => ?_⟩⟩
    rintro v rfl
    rw [nI_1]
    exact ih J2 (hp.2 J2 hq2).1 (hp.2 J2 hq2).2)
/-- whether any touch -/
def cr_tch (p : cr_par) (g : Int32) (dl : Nat) (lost : Int32) : Bool := !decide ((cr_tc p g dl lost 32).1 = -1)
def p_yX4_touches (τ : Nat → Nat) (x2 x3 x4 : Int32) (I : cr_I) : Prop := cr_rok τ I ∧ (0 ≤ x3.toInt ∧ x3.toInt ≤ 4)
def q_yX4_touches (τ : Nat → Nat) (x2 x3 x4 : Int32) (I : cr_I) (r : Int32) (J : cr_I) : Prop := cr_fr 137 168 I J ∧ r = if cr_tch (cr_cpar τ I) x2 (cr_dl x3) x4 = true then 1 else 0
theorem bk_yX4_touches_0 {Γ : cr_G} {K : cr_K} {τ : Nat → Nat} {I : cr_I} {x2 : Int32} {x3 : Int32} {x4 : Int32} (hτ : cr_tau τ)  (h : cr_Ok yX4_touches cX4_touches 6 (some .boolean) (cr_rm0 4 99) K 247 247 Γ) (hyp : p_yX4_begin τ x2 I ∧ (∀ (J1 : cr_I), q_yX4_begin τ x2 I J1 → cr_V Γ 9 [.ref 137, .ref 27, .null, .int x3, .int x4, .int (0 : Int32)] [] J1 (cr_rf τ) 247)) : cr_V Γ 0 [.ref 137, .ref 27, .int x2, .int x3, .int x4, .null] [] I (cr_rf τ) 247 := by
  refine cr_aload_n h (j := 0) rfl rfl dX4_touches_0 ?_
  refine cr_aload_n h (j := 1) rfl rfl dX4_touches_1 ?_
  refine cr_iload_n h (j := 2) rfl rfl dX4_touches_2 ?_
  refine cr_callV h (c0 := 4) (T0 := TX4) C_yX4_begin cZ_yX4_begin wm_X4_45 wv_yX4_begin we_yX4_begin (by decide) rfl rfl (cr_rmS (by decide) (by decide)) (As := [.ref 27, .int x2]) rfl (Nat.le_of_ble_eq_true rfl) dX4_touches_3 ⟨τ, x2, rfl, hτ, rfl, hyp.1, fun J1 q1 => ?_⟩
  have hyp := hyp.2 J1 q1
  show cr_V Γ 6 [.ref 137, .ref 27, .int x2, .int x3, .int x4, .null] [] J1 (cr_rf τ) 247
  refine cr_iconst h (v := (0 : Int32)) (by decide) dX4_touches_6 ?_
  refine cr_istore h (by decide) rfl dX4_touches_7 ?_
  show cr_V Γ 9 [.ref 137, .ref 27, .int x2, .int x3, .int x4, .int (0 : Int32)] [] J1 (cr_rf τ) 247
  exact cr_weak [true, true, false, true, true, true] hyp
theorem bk_yX4_touches_9 {Γ : cr_G} {K : cr_K} {τ : Nat → Nat} {I : cr_I} {x3 : Int32} {x4 : Int32} {x5 : Int32} (hτ : cr_tau τ)  (h : cr_Ok yX4_touches cX4_touches 6 (some .boolean) (cr_rm0 4 99) K 247 247 Γ) (hyp : ((32 : Int32) ≤ x5 → (((I 137 6) = (-1 : Int32) → K (some (.int (0 : Int32))) I (cr_rf τ)) ∧ (¬ (I 137 6) = (-1 : Int32) → K (some (.int (1 : Int32))) I (cr_rf τ)))) ∧ (¬ (32 : Int32) ≤ x5 → ((¬ (I 137 6) = (-1 : Int32) → (((I 137 6) = (-1 : Int32) → K (some (.int (0 : Int32))) I (cr_rf τ)) ∧ (¬ (I 137 6) = (-1 : Int32) → K (some (.int (1 : Int32))) I (cr_rf τ)))) ∧ ((I 137 6) = (-1 : Int32) → (p_yX4_pass τ x5 x3 x4 I ∧ (∀ (J2 : cr_I), q_yX4_pass τ x5 x3 x4 I J2 → (∀ v1 : Int32, v1 = x5 + (1 : Int32) → cr_V Γ 9 [.ref 137, .ref 27, .null, .int x3, .int x4, .int v1] [] J2 (cr_rf τ) 247))))))) : cr_V Γ 9 [.ref 137, .ref 27, .null, .int x3, .int x4, .int x5] [] I (cr_rf τ) 247 := by
  refine cr_iload h rfl dX4_touches_9 ?_
  refine cr_bipush h (v := (32 : Int32)) (by decide) dX4_touches_11 ?_
  refine cr_icmp_ge h (tgt := 40) (by decide) dX4_touches_13 (fun c1 => ?_) (fun c1 => ?_)
  · have hyp := hyp.1 c1
    refine cr_aload_n h (j := 0) rfl rfl dX4_touches_40 ?_
    refine cr_getI h (k := 6) cr_clsX4 (by decide) rfl rfl wf_X4_32 (by decide) rfl dX4_touches_41 ?_
    refine cr_iconst h (v := (-1 : Int32)) (by decide) dX4_touches_44 ?_
    refine cr_icmp_eq h (tgt := 52) (by decide) dX4_touches_45 (fun c2 => ?_) (fun c2 => ?_)
    · have hyp := hyp.1 c2
      refine cr_iconst h (v := (0 : Int32)) (by decide) dX4_touches_52 ?_
      refine cr_iret h rfl (by decide) rfl dX4_touches_53 ?_
      exact hyp
    · have hyp := hyp.2 c2
      refine cr_iconst h (v := (1 : Int32)) (by decide) dX4_touches_48 ?_
      refine cr_goto h (tgt := 53) (by decide) dX4_touches_49 ?_
      refine cr_iret h rfl (by decide) rfl dX4_touches_53 ?_
      exact hyp
  · have hyp := hyp.2 c1
    refine cr_aload_n h (j := 0) rfl rfl dX4_touches_16 ?_
    refine cr_getI h (k := 6) cr_clsX4 (by decide) rfl rfl wf_X4_32 (by decide) rfl dX4_touches_17 ?_
    refine cr_iconst h (v := (-1 : Int32)) (by decide) dX4_touches_20 ?_
    refine cr_icmp_ne h (tgt := 40) (by decide) dX4_touches_21 (fun c3 => ?_) (fun c3 => ?_)
    · have hyp := hyp.1 c3
      refine cr_aload_n h (j := 0) rfl rfl dX4_touches_40 ?_
      refine cr_getI h (k := 6) cr_clsX4 (by decide) rfl rfl wf_X4_32 (by decide) rfl dX4_touches_41 ?_
      refine cr_iconst h (v := (-1 : Int32)) (by decide) dX4_touches_44 ?_
      refine cr_icmp_eq h (tgt := 52) (by decide) dX4_touches_45 (fun c4 => ?_) (fun c4 => ?_)
      · have hyp := hyp.1 c4
        refine cr_iconst h (v := (0 : Int32)) (by decide) dX4_touches_52 ?_
        refine cr_iret h rfl (by decide) rfl dX4_touches_53 ?_
        exact hyp
      · have hyp := hyp.2 c4
        refine cr_iconst h (v := (1 : Int32)) (by decide) dX4_touches_48 ?_
        refine cr_goto h (tgt := 53) (by decide) dX4_touches_49 ?_
        refine cr_iret h rfl (by decide) rfl dX4_touches_53 ?_
        exact hyp
    · have hyp := hyp.2 c3
      refine cr_aload_n h (j := 0) rfl rfl dX4_touches_24 ?_
      refine cr_aload_n h (j := 1) rfl rfl dX4_touches_25 ?_
      refine cr_iload h rfl dX4_touches_26 ?_
      refine cr_iload_n h (j := 3) rfl rfl dX4_touches_28 ?_
      refine cr_iload h rfl dX4_touches_29 ?_
      refine cr_callV h (c0 := 4) (T0 := TX4) C_yX4_pass cZ_yX4_pass wm_X4_49 wv_yX4_pass we_yX4_pass (by decide) rfl rfl (cr_rmS (by decide) (by decide)) (As := [.ref 27, .int x5, .int x3, .int x4]) rfl (Nat.le_of_ble_eq_true rfl) dX4_touches_31 ⟨τ, x5, x3, x4, rfl, hτ, rfl, hyp.1, fun J2 q2 => ?_⟩
      have hyp := hyp.2 J2 q2
      show cr_V Γ 34 [.ref 137, .ref 27, .null, .int x3, .int x4, .int x5] [] J2 (cr_rf τ) 247
      refine cs_inc h (v := (1 : Int32)) 5 rfl (by decide) (by decide) rfl dX4_touches_34 (fun v1 ev1 => ?_)
      have hyp := hyp v1 ev1
      show cr_V Γ 37 [.ref 137, .ref 27, .null, .int x3, .int x4, .int v1] [] J2 (cr_rf τ) 247
      refine cr_goto h (tgt := 9) (by decide) dX4_touches_37 ?_
      exact cr_weak [true, true, false, true, true, true] hyp
abbrev T_yX4_touches : cr_T := fun vs I R K => ∃ (τ : Nat → Nat) (x2 : Int32) (x3 : Int32) (x4 : Int32), R = cr_rf τ ∧ cr_tau τ ∧ vs = [.ref 137, .ref 27, .int x2, .int x3, .int x4] ∧ p_yX4_touches τ x2 x3 x4 I ∧ ∀ (r : Int32) J, q_yX4_touches τ x2 x3 x4 I r J → K (some (.int r)) J (cr_rf τ)
abbrev S_yX4_touches : Prop := cr_C yX4_touches cX4_touches 6 (some .boolean) (cr_rm0 4 99) 247 247 T_yX4_touches
theorem G_yX4_touches (H : ∀ (Γ : cr_G) (K : cr_K) (τ : Nat → Nat) (x2 : Int32) (x3 : Int32) (x4 : Int32) (I : cr_I), cr_tau τ → cr_Ok yX4_touches cX4_touches 6 (some .boolean) (cr_rm0 4 99) K 247 247 Γ → p_yX4_touches τ x2 x3 x4 I → (∀ (r : Int32) J, q_yX4_touches τ x2 x3 x4 I r J → K (some (.int r)) J (cr_rf τ)) → cr_V Γ 0 [.ref 137, .ref 27, .int x2, .int x3, .int x4, .null] [] I (cr_rf τ) 247) : cr_C yX4_touches cX4_touches 6 (some .boolean) (cr_rm0 4 99) 247 247 T_yX4_touches := by
  refine cr_C.of (by decide +kernel) (fun vs I R K hT => ?_) (fun Γ K h vs I R hT => ?_)
  · obtain ⟨τ, x2, x3, x4, rfl, hτ, rfl, hp, hK⟩ := hT
    exact Nat.le_of_ble_eq_true rfl
  · obtain ⟨τ, x2, x3, x4, rfl, hτ, rfl, hp, hK⟩ := hT
    exact H Γ K τ x2 x3 x4 I hτ h hp hK
theorem C_yX4_touches : S_yX4_touches := G_yX4_touches (by
  intro Γ K τ x2 x3 x4 I hτ h hp hK
  obtain ⟨hok, hw⟩ := hp
  have hK1 : ∀ J, cr_fr 137 168 I J → ¬ (cr_tc (cr_cpar τ I) x2 (cr_dl x3) x4 32).1 = -1 → K (some (.int 1)) J (cr_rf τ) := fun J hf hc => hK _ _ ⟨hf, by unfold cr_tch; rw [decide_eq_false hc]; rfl⟩
  have hK0 : ∀ J, cr_fr 137 168 I J → (cr_tc (cr_cpar τ I) x2 (cr_dl x3) x4 32).1 = -1 → K (some (.int 0)) J (cr_rf τ) := fun J hf hc => hK _ _ ⟨hf, by unfold cr_tch; rw [decide_eq_true hc]; rfl⟩
  refine bk_yX4_touches_0 hτ h ⟨hok.1, fun J1 hq => ?_⟩
  refine cr_loop (fun t => ∀ J, cr_fr 137 168 I J → cr_cv (cr_cpar τ I) x2 (cr_dl x3) x4 t J → cr_V Γ 9 [.ref 137, .ref 27, .null, .int x3, .int x4, .int (nI t)] [] J (cr_rf τ) 247) 32 ?_ ?_ 0 (Nat.zero_le _) J1 (cr_begF hq.2.2) (cr_cv0 hq)
  · intro J hf hc
    have e6 : J 137 6 = (cr_tc (cr_cpar τ I) x2 (cr_dl x3) x4 32).1 := congrArg Prod.fst hc.2.2.2.1
    refine bk_yX4_touches_9 hτ h ⟨fun _ => ?_, fun z => absurd (by decide) z⟩
    rw [e6]
    exact ⟨fun z => hK0 J hf z, fun z => hK1 J hf z⟩
  · intro t ht ih J hf hc
    have hp := hc.pass hτ hok hw ht hf
    have e6 : J 137 6 = (cr_tc (cr_cpar τ I) x2 (cr_dl x3) x4 t).1 := congrArg Prod.fst hc.2.2.2.1
    refine bk_yX4_touches_9 hτ h ⟨fun z => absurd z (nI_ge (a := t) (b := 32) ht (by omega)), fun _ => ⟨fun z => ⟨fun y => absurd y z, fun _ => hK1 J hf ?_⟩, fun _ => ⟨hp.1, fun J2 hq2 => ?_⟩⟩⟩
    · rw [e6] at z
      rw [cr_tc_le z 32 (by omega)]
      exact z
    · rintro v rfl
      rw [nI_1]
      exact ih J2 (hp.2 J2 hq2).1 (hp.2 J2 hq2).2)
/-! the worst of waits and losses -/
def cr_gF (p : cr_par) (g : Int32) (l : Nat) (dl : Nat) : Option Nat := cr_firstS (fun m => decide (cr_pc m ≤ l) && cr_tch p g dl (nI m)) 0 256
def cr_dlN (w : Nat) : Nat := if 1 < w then w else 1
def cr_gW (p : cr_par) (g : Int32) (l w : Nat) : Option Nat := cr_gF p g l (cr_dlN w)
def cr_wF (F : Nat → Option Nat) : Nat → Nat → Int32
  | _, 0 => -1
  | w, m + 1 => match F w with
    | some gone => nI (256 * w + gone)
    | none => cr_wF F (w + 1) m
theorem cr_wF_n {F : Nat → Option Nat} {w m : Nat} (h : F w = none) : cr_wF F w (m + 1) = cr_wF F (w + 1) m := by rw [cr_wF, h]
theorem cr_wF_s {F : Nat → Option Nat} {w m gone : Nat} (h : F w = some gone) : cr_wF F w (m + 1) = nI (256 * w + gone) := by rw [cr_wF, h]
def p_yX4_firstTouching (τ : Nat → Nat) (x2 x3 x4 : Int32) (I : cr_I) : Prop := cr_rok τ I ∧ (0 ≤ x3.toInt ∧ x3.toInt ≤ 4) ∧ (0 ≤ x4.toInt ∧ x4.toInt ≤ 2)
def q_yX4_firstTouching (τ : Nat → Nat) (x2 x3 x4 : Int32) (I : cr_I) (r : Int32) (J : cr_I) : Prop := cr_fr 137 168 I J ∧ r = cr_wF (cr_gW (cr_cpar τ I) x2 x4.toNatClampNeg) 0 (x3.toNatClampNeg + 1)
theorem bk_yX4_firstTouching_0 {Γ : cr_G} {K : cr_K} {τ : Nat → Nat} {I : cr_I} {x2 : Int32} {x3 : Int32} {x4 : Int32} (hτ : cr_tau τ)  (h : cr_Ok yX4_firstTouching cX4_firstTouching 7 (some .int) (cr_rm0 5 124) K 247 247 Γ) (hyp : cr_V Γ 3 [.ref 137, .ref 27, .int x2, .int x3, .int x4, .int (0 : Int32), .null] [] I (cr_rf τ) 247) : cr_V Γ 0 [.ref 137, .ref 27, .int x2, .int x3, .int x4, .null, .null] [] I (cr_rf τ) 247 := by
  refine cr_iconst h (v := (0 : Int32)) (by decide) dX4_firstTouching_0 ?_
  refine cr_istore h (by decide) rfl dX4_firstTouching_1 ?_
  show cr_V Γ 3 [.ref 137, .ref 27, .int x2, .int x3, .int x4, .int (0 : Int32), .null] [] I (cr_rf τ) 247
  exact cr_weak [true, true, true, true, true, true, false] hyp
theorem bk_yX4_firstTouching_3 {Γ : cr_G} {K : cr_K} {τ : Nat → Nat} {I : cr_I} {x2 : Int32} {x3 : Int32} {x4 : Int32} {x5 : Int32} (hτ : cr_tau τ)  (h : cr_Ok yX4_firstTouching cX4_firstTouching 7 (some .int) (cr_rm0 5 124) K 247 247 Γ) (hyp : (x3 < x5 → K (some (.int (-1 : Int32))) I (cr_rf τ)) ∧ (¬ x3 < x5 → ((¬ x5 = (1 : Int32) → cr_V Γ 21 [.ref 137, .ref 27, .int x2, .int x3, .int x4, .int x5, .int (0 : Int32)] [] I (cr_rf τ) 247) ∧ (x5 = (1 : Int32) → (∀ v1 : Int32, v1 = x5 + (1 : Int32) → cr_V Γ 3 [.ref 137, .ref 27, .int x2, .int x3, .int x4, .int v1, .null] [] I (cr_rf τ) 247))))) : cr_V Γ 3 [.ref 137, .ref 27, .int x2, .int x3, .int x4, .int x5, .null] [] I (cr_rf τ) 247 := by
  refine cr_iload h rfl dX4_firstTouching_3 ?_
  refine cr_iload_n h (j := 3) rfl rfl dX4_firstTouching_5 ?_
  refine cr_icmp_gt h (tgt := 74) (by decide) dX4_firstTouching_6 (fun c1 => ?_) (fun c1 => ?_)
  · have hyp := hyp.1 c1
    refine cr_iconst h (v := (-1 : Int32)) (by decide) dX4_firstTouching_74 ?_
    refine cr_iret h rfl rfl rfl dX4_firstTouching_75 ?_
    exact hyp
  · have hyp := hyp.2 c1
    refine cr_iload h rfl dX4_firstTouching_9 ?_
    refine cr_iconst h (v := (1 : Int32)) (by decide) dX4_firstTouching_11 ?_
    refine cr_icmp_ne h (tgt := 18) (by decide) dX4_firstTouching_12 (fun c2 => ?_) (fun c2 => ?_)
    · have hyp := hyp.1 c2
      refine cr_iconst h (v := (0 : Int32)) (by decide) dX4_firstTouching_18 ?_
      refine cr_istore h (by decide) rfl dX4_firstTouching_19 ?_
      show cr_V Γ 21 [.ref 137, .ref 27, .int x2, .int x3, .int x4, .int x5, .int (0 : Int32)] [] I (cr_rf τ) 247
      exact cr_weak [true, true, true, true, true, true, true] hyp
    · have hyp := hyp.2 c2
      refine cr_goto h (tgt := 68) (by decide) dX4_firstTouching_15 ?_
      refine cs_inc h (v := (1 : Int32)) 5 rfl (by decide) (by decide) rfl dX4_firstTouching_68 (fun v1 ev1 => ?_)
      have hyp := hyp v1 ev1
      show cr_V Γ 71 [.ref 137, .ref 27, .int x2, .int x3, .int x4, .int v1, .null] [] I (cr_rf τ) 247
      refine cr_goto h (tgt := 3) (by decide) dX4_firstTouching_71 ?_
      exact cr_weak [true, true, true, true, true, true, false] hyp
theorem bk_yX4_firstTouching_21 {Γ : cr_G} {K : cr_K} {τ : Nat → Nat} {I : cr_I} {x2 : Int32} {x3 : Int32} {x4 : Int32} {x5 : Int32} {x6 : Int32} (hτ : cr_tau τ)  (h : cr_Ok yX4_firstTouching cX4_firstTouching 7 (some .int) (cr_rm0 5 124) K 247 247 Γ) (hyp : ((256 : Int32) ≤ x6 → (∀ v2 : Int32, v2 = x5 + (1 : Int32) → cr_V Γ 3 [.ref 137, .ref 27, .int x2, .int x3, .int x4, .int v2, .null] [] I (cr_rf τ) 247)) ∧ (¬ (256 : Int32) ≤ x6 → ((x4 < (f_yJ6_bitCount_0f7a4 τ x6 I) → (∀ v3 : Int32, v3 = x6 + (1 : Int32) → cr_V Γ 21 [.ref 137, .ref 27, .int x2, .int x3, .int x4, .int x5, .int v3] [] I (cr_rf τ) 247)) ∧ (¬ x4 < (f_yJ6_bitCount_0f7a4 τ x6 I) → (p_yX4_touches τ x2 x5 x6 I ∧ (∀ (r1 : Int32) (J1 : cr_I), q_yX4_touches τ x2 x5 x6 I r1 J1 → ((r1 = 0 → (∀ v4 : Int32, v4 = x6 + (1 : Int32) → cr_V Γ 21 [.ref 137, .ref 27, .int x2, .int x3, .int x4, .int x5, .int v4] [] J1 (cr_rf τ) 247)) ∧ (¬ r1 = 0 → K (some (.int (((256 : Int32) * x5) + x6))) J1 (cr_rf τ))))))))) : cr_V Γ 21 [.ref 137, .ref 27, .int x2, .int x3, .int x4, .int x5, .int x6] [] I (cr_rf τ) 247 := by
  refine cr_iload h rfl dX4_firstTouching_21 ?_
  refine cr_sipush h (v := (256 : Int32)) (by decide) dX4_firstTouching_23 ?_
  refine cr_icmp_ge h (tgt := 68) (by decide) dX4_firstTouching_26 (fun c3 => ?_) (fun c3 => ?_)
  · have hyp := hyp.1 c3
    refine cs_inc h (v := (1 : Int32)) 5 rfl (by decide) (by decide) rfl dX4_firstTouching_68 (fun v2 ev2 => ?_)
    have hyp := hyp v2 ev2
    show cr_V Γ 71 [.ref 137, .ref 27, .int x2, .int x3, .int x4, .int v2, .int x6] [] I (cr_rf τ) 247
    refine cr_goto h (tgt := 3) (by decide) dX4_firstTouching_71 ?_
    exact cr_weak [true, true, true, true, true, true, false] hyp
  · have hyp := hyp.2 c3
    refine cr_iload h rfl dX4_firstTouching_29 ?_
    refine cr_callS h C_yJ6_bitCount_0f7a4 cZ_yJ6_bitCount_0f7a4 wm_X4_53 ws_yJ6_bitCount_0f7a4 (cr_rmS (by decide) (by decide)) (As := [.int x6]) rfl (Nat.le_of_ble_eq_true rfl) dX4_firstTouching_31 ⟨τ, x6, rfl, hτ, rfl, ?_⟩
    show cr_V Γ 34 [.ref 137, .ref 27, .int x2, .int x3, .int x4, .int x5, .int x6] [.int (f_yJ6_bitCount_0f7a4 τ x6 I)] I (cr_rf τ) 247
    refine cr_iload h rfl dX4_firstTouching_34 ?_
    refine cr_icmp_gt h (tgt := 62) (by decide) dX4_firstTouching_36 (fun c4 => ?_) (fun c4 => ?_)
    · have hyp := hyp.1 c4
      refine cs_inc h (v := (1 : Int32)) 6 rfl (by decide) (by decide) rfl dX4_firstTouching_62 (fun v3 ev3 => ?_)
      have hyp := hyp v3 ev3
      show cr_V Γ 65 [.ref 137, .ref 27, .int x2, .int x3, .int x4, .int x5, .int v3] [] I (cr_rf τ) 247
      refine cr_goto h (tgt := 21) (by decide) dX4_firstTouching_65 ?_
      exact cr_weak [true, true, true, true, true, true, true] hyp
    · have hyp := hyp.2 c4
      refine cr_aload_n h (j := 0) rfl rfl dX4_firstTouching_39 ?_
      refine cr_aload_n h (j := 1) rfl rfl dX4_firstTouching_40 ?_
      refine cr_iload_n h (j := 2) rfl rfl dX4_firstTouching_41 ?_
      refine cr_iload h rfl dX4_firstTouching_42 ?_
      refine cr_iload h rfl dX4_firstTouching_44 ?_
      refine cr_callV h (c0 := 4) (T0 := TX4) C_yX4_touches cZ_yX4_touches wm_X4_59 wv_yX4_touches we_yX4_touches (by decide) rfl rfl (cr_rmS (by decide) (by decide)) (As := [.ref 27, .int x2, .int x5, .int x6]) rfl (Nat.le_of_ble_eq_true rfl) dX4_firstTouching_46 ⟨τ, x2, x5, x6, rfl, hτ, rfl, hyp.1, fun r1 J1 q1 => ?_⟩
      have hyp := hyp.2 r1 J1 q1
      show cr_V Γ 49 [.ref 137, .ref 27, .int x2, .int x3, .int x4, .int x5, .int x6] [.int r1] J1 (cr_rf τ) 247
      refine cr_if_eq h (tgt := 62) (by decide) dX4_firstTouching_49 (fun c5 => ?_) (fun c5 => ?_)
      · have hyp := hyp.1 c5
        refine cs_inc h (v := (1 : Int32)) 6 rfl (by decide) (by decide) rfl dX4_firstTouching_62 (fun v4 ev4 => ?_)
        have hyp := hyp v4 ev4
        show cr_V Γ 65 [.ref 137, .ref 27, .int x2, .int x3, .int x4, .int x5, .int v4] [] J1 (cr_rf τ) 247
        refine cr_goto h (tgt := 21) (by decide) dX4_firstTouching_65 ?_
        exact cr_weak [true, true, true, true, true, true, true] hyp
      · have hyp := hyp.2 c5
        refine cr_sipush h (v := (256 : Int32)) (by decide) dX4_firstTouching_52 ?_
        refine cr_iload h rfl dX4_firstTouching_55 ?_
        refine cr_imul h dX4_firstTouching_57 ?_
        refine cr_iload h rfl dX4_firstTouching_58 ?_
        refine cr_iadd h dX4_firstTouching_60 ?_
        refine cr_iret h rfl rfl rfl dX4_firstTouching_61 ?_
        exact hyp
abbrev T_yX4_firstTouching : cr_T := fun vs I R K => ∃ (τ : Nat → Nat) (x2 : Int32) (x3 : Int32) (x4 : Int32), R = cr_rf τ ∧ cr_tau τ ∧ vs = [.ref 137, .ref 27, .int x2, .int x3, .int x4] ∧ p_yX4_firstTouching τ x2 x3 x4 I ∧ ∀ (r : Int32) J, q_yX4_firstTouching τ x2 x3 x4 I r J → K (some (.int r)) J (cr_rf τ)
abbrev S_yX4_firstTouching : Prop := cr_C yX4_firstTouching cX4_firstTouching 7 (some .int) (cr_rm0 5 124) 247 247 T_yX4_firstTouching
theorem G_yX4_firstTouching (H : ∀ (Γ : cr_G) (K : cr_K) (τ : Nat → Nat) (x2 : Int32) (x3 : Int32) (x4 : Int32) (I : cr_I), cr_tau τ → cr_Ok yX4_firstTouching cX4_firstTouching 7 (some .int) (cr_rm0 5 124) K 247 247 Γ → p_yX4_firstTouching τ x2 x3 x4 I → (∀ (r : Int32) J, q_yX4_firstTouching τ x2 x3 x4 I r J → K (some (.int r)) J (cr_rf τ)) → cr_V Γ 0 [.ref 137, .ref 27, .int x2, .int x3, .int x4, .null, .null] [] I (cr_rf τ) 247) : cr_C yX4_firstTouching cX4_firstTouching 7 (some .int) (cr_rm0 5 124) 247 247 T_yX4_firstTouching := by
  refine cr_C.of (by decide +kernel) (fun vs I R K hT => ?_) (fun Γ K h vs I R hT => ?_)
  · obtain ⟨τ, x2, x3, x4, rfl, hτ, rfl, hp, hK⟩ := hT
    exact Nat.le_of_ble_eq_true rfl
  · obtain ⟨τ, x2, x3, x4, rfl, hτ, rfl, hp, hK⟩ := hT
    exact H Γ K τ x2 x3 x4 I hτ h hp hK
theorem C_yX4_firstTouching : S_yX4_firstTouching := G_yX4_firstTouching (by
  intro Γ K τ x2 x3 x4 I hτ h hp hK
  obtain ⟨hok, hw, hl⟩ := hp
  obtain ⟨e3, hw4⟩ := cr_ofI (B := 4) hw.1 hw.2
  obtain ⟨e4, hl2⟩ := cr_ofI (B := 2) hl.1 hl.2
  unfold q_yX4_firstTouching at hK
  generalize x3.toNatClampNeg = w at *
  generalize x4.toNatClampNeg = l at *
  generalize hpp : cr_cpar τ I = pp at *
  have hdl : ∀ v, v ≤ 4 → cr_dl (nI v) = cr_dlN v := fun v hv => by unfold cr_dl cr_dlN; rw [cr_nc (by omega)]
  -- the losses of one wait
  have inner : ∀ v, v ≤ 4 → ∀ J, cr_fr 137 168 I J → (∀ gone, cr_gF pp x2 l (cr_dlN v) = some gone → ∀ J', cr_fr 137 168 I J' → K (some (.int (nI (256 * v + gone)))) J' (cr_rf τ)) → (cr_gF pp x2 l (cr_dlN v) = none → ∀ J', cr_fr 137 168 I J' → cr_V Γ 3 [.ref 137, .ref 27, .int x2, .int (nI w), .int (nI l), .int (nI (v + 1)), .null] [] J' (cr_rf τ) 247) → cr_V Γ 21 [.ref 137, .ref 27, .int x2, .int (nI w), .int (nI l), .int (nI v), .int (0 : Int32)] [] J (cr_rf τ) 247 := by
    intro v hv J hfJ k1 k0
    have key : ∀ m q, q + m = 256 → ∀ J, cr_fr 137 168 I J → cr_gF pp x2 l (cr_dlN v) = cr_firstS (fun m => decide (cr_pc m ≤ l) && cr_tch pp x2 (cr_dlN v) (nI m)) q m → cr_V Γ 21 [.ref 137, .ref 27, .int x2, .int (nI w), .int (nI l), .int (nI v), .int (nI q)] [] J (cr_rf τ) 247 := by
      intro m
      induction m with
      | zero =>
        intro q hq J hf he
        refine bk_yX4_firstTouching_21 hτ h ⟨fun _ => ?_, fun z => absurd (by rw [show q = 256 by omega]; decide) z⟩
        rintro v2 rfl
        rw [nI_1]
        exact k0 he J hf
      | succ m ih =>
        intro q hq J hf he
        rw [cr_firstS] at he
        refine bk_yX4_firstTouching_21 hτ h ⟨fun z => absurd z (nI_ge (a := q) (b := 256) (by omega) (by omega)), fun _ => ?_⟩
        have hpc : cr_pc q ≤ 8 := by unfold cr_pc; omega
        rw [cr_bc τ J q (by omega), cr_nlt (by omega) (by omega)]
        refine ⟨fun c => ?_, fun c => ⟨⟨hf.lo.rok hτ hok, by rw [cr_nt (by omega)]; omega⟩, fun r1 J1 hq1 => ?_⟩⟩
        · rintro v3 rfl
          rw [nI_1]
          refine ih (q + 1) (by omega) J hf ?_
          rw [he, if_neg]
          rw [decide_eq_false (by omega), Bool.false_and]
          decide
        · obtain ⟨hf1, er⟩ := hq1
          rw [hf.lo.par hτ hok, hpp, hdl v hv] at er
          have hf1' := hf.tr hf1
          by_cases tt : cr_tch pp x2 (cr_dlN v) (nI q) = true
          · rw [if_pos tt] at er
            subst er
            rw [if_pos (by rw [decide_eq_true (by omega), tt]; rfl)] at he
            refine ⟨fun z => absurd z (by decide), fun _ => ?_⟩
            rw [show (256 : Int32) = nI 256 from rfl, pk_mul, nI_add]
            exact k1 q he J1 hf1'
          · rw [if_neg tt] at er
            subst er
            rw [if_neg (by rw [Bool.and_eq_true]; exact fun z => tt z.2)] at he
            refine ⟨fun _ => ?_, fun z => absurd rfl z⟩
            rintro v4 rfl
            rw [nI_1]
            exact ih (q + 1) (by omega) J1 hf1' he
    exact key 256 0 rfl J hfJ rfl
  have outer : ∀ m v, v + m = w + 1 → ∀ J, cr_fr 137 168 I J → cr_wF (cr_gW pp x2 l) 0 (w + 1) = cr_wF (cr_gW pp x2 l) v m → (v = 1 → cr_gF pp x2 l (cr_dlN 0) = none) → cr_V Γ 3 [.ref 137, .ref 27, .int x2, .int (nI w), .int (nI l), .int (nI v), .null] [] J (cr_rf τ) 247 := by
    intro m
    induction m with
    | zero =>
      intro v hv J hf he _
      refine bk_yX4_firstTouching_3 hτ h ⟨fun _ => hK _ _ ⟨hf, by rw [he]; rfl⟩, fun z => absurd ((cr_nlt (by omega) (by omega)).mpr (by omega)) z⟩
    | succ m ih =>
      intro v hv J hf he h1
      have hv1 : (nI v = (1 : Int32)) ↔ v = 1 := cr_neq (b := 1) (by omega) (by omega)
      refine bk_yX4_firstTouching_3 hτ h ⟨fun z => absurd ((cr_nlt (by omega) (by omega)).mp z) (by omega), fun _ => ?_⟩
      rw [hv1]
      refine ⟨fun c => ?_, fun c => ?_⟩
      · refine inner v (by omega) J hf (fun gone hg J' hf' => ?_) (fun hg J' hf' => ?_)
        · exact hK _ _ ⟨hf', (he.trans (cr_wF_s hg)).symm⟩
        · exact ih (v + 1) (by omega) J' hf' (he.trans (cr_wF_n hg)) (fun z => by rw [show (0 : Nat) = v by omega]; exact hg)
      · rintro v1 rfl
        rw [nI_1]
        subst c
        have h0 := h1 rfl
        have hd : cr_dlN 1 = cr_dlN 0 := rfl
        have hg : cr_gF pp x2 l (cr_dlN 1) = none := by rw [hd]; exact h0
        exact ih 2 (by omega) J hf (he.trans (cr_wF_n hg)) (fun z => absurd z (by decide))
  refine bk_yX4_firstTouching_0 hτ h ?_
  rw [e3, e4]
  exact outer (w + 1) 0 (by omega) I cr_fr.rf rfl (fun z => absurd z (by decide)))
