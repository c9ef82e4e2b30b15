/-! what the reference's run goes by -/
def cr_mn0 (I : cr_I) : Nat := (I 200 13).toNatClampNeg
def cr_mnok (I : cr_I) : Prop := 1 ≤ (I 200 13).toInt ∧ (I 200 13).toInt ≤ 6
theorem cr_mnok.un {I : cr_I} (h : cr_mnok I) : I 200 13 = nI (cr_mn0 I) ∧ 1 ≤ cr_mn0 I ∧ cr_mn0 I ≤ 6 := by
  obtain ⟨e, h6⟩ := cr_ofI (x := I 200 13) (B := 6) (by have := h.1; omega) h.2
  refine ⟨e, ?_, h6⟩
  show 1 ≤ (I 200 13).toInt.toNat
  have := h.1
  omega
def cr_msok (I : cr_I) : Prop := (0 ≤ (I 200 25).toInt ∧ (I 200 25).toInt ≤ 5) ∧ (0 ≤ (I 200 26).toInt ∧ (I 200 26).toInt ≤ (I 200 27).toInt) ∧ (I 200 27).toInt ≤ 31
abbrev cr_misP (I : cr_I) (i t : Nat) : Prop := 0 < (I 200 25).toNatClampNeg ∧ (I 200 25).toNatClampNeg = i ∧ (I 200 26).toNatClampNeg ≤ t ∧ t ≤ (I 200 27).toNatClampNeg
theorem cr_mis {τ : Nat → Nat} {I : cr_I} {i t : Nat} (hs : cr_msok I) (hi : i < 100000) (ht : t < 100000) : (f_yX9_isStrange τ (nI i) (nI t) I = 0) ↔ ¬ cr_misP I i t := by
  obtain ⟨h13, h14, h15⟩ := hs
  obtain ⟨e13, b13⟩ := cr_ofI (B := 5) h13.1 h13.2
  obtain ⟨e14, b14⟩ := cr_ofI (B := 31) h14.1 (by omega)
  obtain ⟨e15, b15⟩ := cr_ofI (B := 31) (x := I 200 27) (by omega) h15
  unfold cr_misP f_yX9_isStrange
  rw [cr_in, Int32.toInt_toInt64, Int32.toInt_toInt64, Int32.toInt_toInt64]
  generalize (I 200 25).toNatClampNeg = L at *
  generalize (I 200 26).toNatClampNeg = fr at *
  generalize (I 200 27).toNatClampNeg = to at *
  rw [e13, e14, e15, cr_nt (by omega), cr_nt (by omega), cr_nt (by omega)]
  have c1 : (nI L ≤ 0) ↔ L = 0 := by rw [← nI_0, cr_nlq (by omega) (by omega)]; omega
  have c2 : (nI L = nI i) ↔ L = i := cr_neq (by omega) hi
  simp only [c1, c2]
  by_cases q1 : L = 0
  · rw [if_pos q1]; exact ⟨fun _ z => by omega, fun _ => rfl⟩
  · rw [if_neg q1]
    by_cases q2 : L = i
    · rw [if_pos q2]
      by_cases q3 : (fr : Int) ≤ (t : Int) ∧ (t : Int) ≤ (to : Int)
      · rw [if_pos q3, if_neg (by decide)]; exact ⟨fun z => absurd z (by decide), fun z => absurd ⟨by omega, by omega, by omega, by omega⟩ z⟩
      · rw [if_neg q3, if_pos rfl]; exact ⟨fun _ z => by omega, fun _ => rfl⟩
    · rw [if_neg q2]; exact ⟨fun _ z => by omega, fun _ => rfl⟩
def cr_mmk (I : cr_I) (i : Nat) : Nat := (I 213 i).toNatClampNeg
def cr_mpw (I : cr_I) (x1 : Int32) : Int32 := if 0 ≤ cr_pushS (I 215) (I 216) x1 (I 200 18).toNatClampNeg then (if I 203 (cr_mmk I 0) ≤ cr_pushS (I 215) (I 216) x1 (I 200 18).toNatClampNeg then I 203 (cr_mmk I 0) else cr_pushS (I 215) (I 216) x1 (I 200 18).toNatClampNeg) else -(if I 202 (cr_mmk I 0) ≤ -(cr_pushS (I 215) (I 216) x1 (I 200 18).toNatClampNeg) then I 202 (cr_mmk I 0) else -(cr_pushS (I 215) (I 216) x1 (I 200 18).toNatClampNeg))
theorem cr_mpw_eq {τ : Nat → Nat} {x1 : Int32} {I : cr_I} : f_yX9_pushedIn τ x1 I = cr_mpw I x1 := rfl
def cr_mpar (I : cr_I) : cr_par := (cr_mn0 I, I 214 1, fun t => cr_mpw I (nI t), fun i v => if i < cr_mn0 I then cr_mwb I (cr_mmk I i) v else 0, fun i => if i < cr_mn0 I then (I 204 (cr_mmk I i)).toNatClampNeg else 0, fun i q => if i < cr_mn0 I then cr_slopeS (I 217) (I 218) (I 219) (I 220) (I 201 (cr_mmk I i)) q (I 200 24).toNatClampNeg else 40, (I 200 25).toNatClampNeg, (I 200 26).toNatClampNeg, (I 200 27).toNatClampNeg, I 200 28)
def cr_mok (I : cr_I) : Prop := cr_mnok I ∧ cr_msok I ∧ ((0 ≤ (I 200 18).toInt ∧ (I 200 18).toInt ≤ 8) ∧ (0 ≤ (I 200 24).toInt ∧ (I 200 24).toInt ≤ 2)) ∧ (∀ i, i < 6 → 0 ≤ (I 213 i).toInt ∧ (I 213 i).toInt < 4) ∧ (∀ m, m < 4 → (0 ≤ (I 204 m).toInt ∧ (I 204 m).toInt ≤ 3) ∧ cr_mtok I m) ∧ ∀ k, k < (I 200 24).toNatClampNeg → 0 ≤ (I 220 k).toInt ∧ (I 220 k).toInt ≤ 40
theorem cr_mmk_lt {I : cr_I} (h : cr_mok I) {i : Nat} (hi : i < 6) : cr_mmk I i < 4 := by
  have := h.2.2.2.1 i hi
  show (I 213 i).toInt.toNat < 4
  omega
/-- what the reference's run leaves as it was -/
def cr_PRm (b k : Nat) : Prop := (b = 200 ∧ (k = 55 ∨ k = 56 ∨ k = 60)) ∨ (233 ≤ b ∧ b ≤ 242)
theorem cr_PRm_r {I J : cr_I} (h : cr_F cr_PRm I J) {b : Nat} (hb : b < 200 ∨ (200 < b ∧ b < 233) ∨ 242 < b) : J b = I b := funext fun k => h b k (by unfold cr_PRm; omega)
theorem cr_PRm_f {I J : cr_I} (h : cr_F cr_PRm I J) {k : Nat} (hk : ¬ (k = 55 ∨ k = 56 ∨ k = 60)) : J 200 k = I 200 k := h 200 k (by unfold cr_PRm; omega)
theorem cr_mok.fr {I J : cr_I} (hok : cr_mok I) (h : cr_F cr_PRm I J) : cr_mok J := by
  unfold cr_mok cr_mnok cr_msok cr_mtok at *
  simp only [cr_PRm_f h (k := 13) (by decide), cr_PRm_f h (k := 25) (by decide), cr_PRm_f h (k := 26) (by decide), cr_PRm_f h (k := 27) (by decide), cr_PRm_f h (k := 18) (by decide), cr_PRm_f h (k := 24) (by decide), cr_PRm_r h (b := 213) (by decide), cr_PRm_r h (b := 204) (by decide), cr_PRm_r h (b := 206) (by decide), cr_PRm_r h (b := 209) (by decide), cr_PRm_r h (b := 210) (by decide), cr_PRm_r h (b := 220) (by decide)]
  exact hok
theorem cr_mpar_fr {I J : cr_I} (h : cr_F cr_PRm I J) : cr_mpar J = cr_mpar I := by
  unfold cr_mpar cr_mn0 cr_mpw cr_mmk cr_mwb cr_mval cr_mln
  simp only [cr_PRm_f h (k := 13) (by decide), cr_PRm_f h (k := 25) (by decide), cr_PRm_f h (k := 26) (by decide), cr_PRm_f h (k := 27) (by decide), cr_PRm_f h (k := 28) (by decide), cr_PRm_f h (k := 18) (by decide), cr_PRm_f h (k := 24) (by decide), cr_PRm_r h (b := 213) (by decide), cr_PRm_r h (b := 204) (by decide), cr_PRm_r h (b := 206) (by decide), cr_PRm_r h (b := 207) (by decide), cr_PRm_r h (b := 208) (by decide), cr_PRm_r h (b := 209) (by decide), cr_PRm_r h (b := 210) (by decide), cr_PRm_r h (b := 211) (by decide), cr_PRm_r h (b := 212) (by decide), cr_PRm_r h (b := 220) (by decide), cr_PRm_r h (b := 219) (by decide), cr_PRm_r h (b := 218) (by decide), cr_PRm_r h (b := 217) (by decide), cr_PRm_r h (b := 201) (by decide), cr_PRm_r h (b := 202) (by decide), cr_PRm_r h (b := 203) (by decide), cr_PRm_r h (b := 214) (by decide), cr_PRm_r h (b := 215) (by decide), cr_PRm_r h (b := 216) (by decide)]
theorem cr_mn0_fr {I J : cr_I} (h : cr_F cr_PRm I J) : cr_mn0 J = cr_mn0 I := by
  unfold cr_mn0
  rw [cr_PRm_f h (k := 13) (by decide)]
theorem cr_mwb_fr {I J : cr_I} (h : cr_F cr_PRm I J) {m : Nat} {v : Nat → Int32} : cr_mwb J m v = cr_mwb I m v := by
  unfold cr_mwb cr_mval cr_mln
  simp only [cr_PRm_r h (b := 206) (by decide), cr_PRm_r h (b := 207) (by decide), cr_PRm_r h (b := 208) (by decide), cr_PRm_r h (b := 209) (by decide), cr_PRm_r h (b := 210) (by decide), cr_PRm_r h (b := 211) (by decide), cr_PRm_r h (b := 212) (by decide), cr_PRm_r h (b := 202) (by decide), cr_PRm_r h (b := 203) (by decide)]
theorem cr_mpw_fr {I J : cr_I} (h : cr_F cr_PRm I J) {t : Int32} : cr_mpw J t = cr_mpw I t := by
  unfold cr_mpw cr_mmk
  simp only [cr_PRm_r h (b := 213) (by decide), cr_PRm_r h (b := 215) (by decide), cr_PRm_r h (b := 216) (by decide), cr_PRm_r h (b := 202) (by decide), cr_PRm_r h (b := 203) (by decide), cr_PRm_f h (k := 18) (by decide)]
/-! wishes -/
def cr_enc (o : Option Nat) : Int32 := match o with
  | none => -1
  | some s => nI s
theorem cr_enc_1 {o : Option Nat} (h : ∀ s, o = some s → s < 100000) : (cr_enc o = -1) ↔ o = none := by
  cases o with
  | none => exact ⟨fun _ => rfl, fun _ => rfl⟩
  | some s =>
    refine ⟨fun z => ?_, fun z => by cases z⟩
    have z : nI s = -1 := z
    rw [cr_eq, cr_nt (h s rfl)] at z
    have : (-1 : Int32).toInt = -1 := rfl
    omega
def cr_PWm (t b k : Nat) : Prop := (b = 200 ∧ k = 60) ∨ ((b = 236 ∨ b = 237 ∨ b = 238) ∧ 6 * t ≤ k ∧ k < 6 * t + 6) ∨ (b = 239 ∧ k = t)
theorem cr_PWm.w {t : Nat} {I J : cr_I} (h : cr_F (cr_PWm t) I J) : cr_F cr_PRm I J := h.wd (fun b k z => by unfold cr_PWm at z; unfold cr_PRm; omega)
def cr_mms (I : cr_I) : cr_RS := (I 240, I 241, I 242, I 200 60, fun u i => I 236 (6 * u + i))
def cr_hs1 (I : cr_I) (u : Nat) : Int32 := if I 236 (6 * u) < 0 then -(I 236 (6 * u)) else 0
def p_yX9_layWishes (τ : Nat → Nat) (x1 x2 x3 : Int32) (I : cr_I) : Prop := cr_mok I ∧ ((0 ≤ x1.toInt ∧ x1.toInt ≤ 31) ∧ (1 ≤ x2.toInt ∧ x2.toInt ≤ 4)) ∧ ∀ u, u < x1.toNatClampNeg → I 239 u = cr_hs1 I u
def q_yX9_layWishes (τ : Nat → Nat) (x1 x2 x3 : Int32) (I J : cr_I) : Prop := cr_F (cr_PWm x1.toNatClampNeg) I J ∧ (∀ i, i < cr_mn0 I → J 236 (6 * x1.toNatClampNeg + i) = cr_Wt (cr_mpar I) x2.toNatClampNeg x3 x1.toNatClampNeg (cr_mms I) i ∧ J 237 (6 * x1.toNatClampNeg + i) = (if i = 0 then 0 else cr_Ht x2.toNatClampNeg x3 x1.toNatClampNeg (cr_mms I)) ∧ J 238 (6 * x1.toNatClampNeg + i) = (if i = 0 then 99 else cr_Ot x2.toNatClampNeg x3 x1.toNatClampNeg)) ∧ J 200 60 = cr_sgm (cr_mpar I) x1.toNatClampNeg (cr_mms I) ∧ J 239 x1.toNatClampNeg = cr_hs1 J x1.toNatClampNeg
theorem bk_yX9_layWishes_0 {Γ : cr_G} {K : cr_K} {τ : Nat → Nat} {I : cr_I} {x1 : Int32} {x2 : Int32} {x3 : Int32} (hτ : cr_tau τ)  (h : cr_Ok yX9_layWishes cX9_layWishes 7 none (cr_rm0 2 52) K 247 247 Γ) (hyp : cr_V Γ 6 [.ref 200, .int x1, .int x2, .int x3, .int (-1 : Int32), .int (0 : Int32), .null] [] I (cr_rf τ) 247) : cr_V Γ 0 [.ref 200, .int x1, .int x2, .int x3, .null, .null, .null] [] I (cr_rf τ) 247 := by
  refine cr_iconst h (v := (-1 : Int32)) (by decide) dX9_layWishes_0 ?_
  refine cr_istore h (by decide) rfl dX9_layWishes_1 ?_
  show cr_V Γ 3 [.ref 200, .int x1, .int x2, .int x3, .int (-1 : Int32), .null, .null] [] I (cr_rf τ) 247
  refine cr_iconst h (v := (0 : Int32)) (by decide) dX9_layWishes_3 ?_
  refine cr_istore h (by decide) rfl dX9_layWishes_4 ?_
  show cr_V Γ 6 [.ref 200, .int x1, .int x2, .int x3, .int (-1 : Int32), .int (0 : Int32), .null] [] I (cr_rf τ) 247
  exact cr_weak [true, true, true, true, true, true, false] hyp
theorem bk_yX9_layWishes_6 {Γ : cr_G} {K : cr_K} {τ : Nat → Nat} {I : cr_I} {x1 : Int32} {x2 : Int32} {x3 : Int32} {x4 : Int32} {x5 : Int32} (hτ : cr_tau τ)  (h : cr_Ok yX9_layWishes cX9_layWishes 7 none (cr_rm0 2 52) K 247 247 Γ) (hyp : (x1 < (x5 + x2) → cr_V Γ 41 [.ref 200, .int x1, .null, .null, .int x4, .int (0 : Int32), .null] [] I (cr_rf τ) 247) ∧ (¬ x1 < (x5 + x2) → (∀ v1 : Int32, v1 = (if ((x3 >>> (x5 &&& 31)) &&& (1 : Int32)) = 0 then x5 else x4) → (∀ v2 : Int32, v2 = x5 + (1 : Int32) → cr_V Γ 6 [.ref 200, .int x1, .int x2, .int x3, .int v1, .int v2, .null] [] I (cr_rf τ) 247)))) : cr_V Γ 6 [.ref 200, .int x1, .int x2, .int x3, .int x4, .int x5, .null] [] I (cr_rf τ) 247 := by
  refine cr_iload h rfl dX9_layWishes_6 ?_
  refine cr_iload_n h (j := 2) rfl rfl dX9_layWishes_8 ?_
  refine cr_iadd h dX9_layWishes_9 ?_
  refine cr_iload_n h (j := 1) rfl rfl dX9_layWishes_10 ?_
  refine cr_icmp_gt h (tgt := 38) (by decide) dX9_layWishes_11 (fun c1 => ?_) (fun c1 => ?_)
  · have hyp := hyp.1 c1
    refine cr_iconst h (v := (0 : Int32)) (by decide) dX9_layWishes_38 ?_
    refine cr_istore h (by decide) rfl dX9_layWishes_39 ?_
    show cr_V Γ 41 [.ref 200, .int x1, .int x2, .int x3, .int x4, .int (0 : Int32), .null] [] I (cr_rf τ) 247
    exact cr_weak [true, true, false, false, true, true, false] hyp
  · have hyp := hyp.2 c1
    refine cr_iload_n h (j := 3) rfl rfl dX9_layWishes_14 ?_
    refine cr_iload h rfl dX9_layWishes_15 ?_
    refine cr_ishr h dX9_layWishes_17 ?_
    refine cr_iconst h (v := (1 : Int32)) (by decide) dX9_layWishes_18 ?_
    refine cr_iand h dX9_layWishes_19 ?_
    have J1 : cr_V Γ 30 [.ref 200, .int x1, .int x2, .int x3, .int x4, .int x5, .null] [.int (if ((x3 >>> (x5 &&& 31)) &&& (1 : Int32)) = 0 then x5 else x4)] I (cr_rf τ) 247 := by
      refine cs_i h 4 (by decide) rfl dX9_layWishes_30 (fun v1 ev1 => ?_)
      have hyp := hyp v1 ev1
      show cr_V Γ 32 [.ref 200, .int x1, .int x2, .int x3, .int v1, .int x5, .null] [] I (cr_rf τ) 247
      refine cs_inc h (v := (1 : Int32)) 5 rfl (by decide) (by decide) rfl dX9_layWishes_32 (fun v2 ev2 => ?_)
      have hyp := hyp v2 ev2
      show cr_V Γ 35 [.ref 200, .int x1, .int x2, .int x3, .int v1, .int v2, .null] [] I (cr_rf τ) 247
      refine cr_goto h (tgt := 6) (by decide) dX9_layWishes_35 ?_
      exact cr_weak [true, true, true, true, true, true, false] hyp
    refine cr_if_ne h (tgt := 28) (by decide) dX9_layWishes_20 (fun c2 => ?_) (fun c2 => ?_)
    · refine cr_iload h rfl dX9_layWishes_28 ?_
      exact cr_ite (by rw [if_neg c2]) J1
    · refine cr_iload h rfl dX9_layWishes_23 ?_
      refine cr_goto h (tgt := 30) (by decide) dX9_layWishes_25 ?_
      exact cr_ite (by rw [if_pos c2]) J1
theorem bk_yX9_layWishes_41 {Γ : cr_G} {K : cr_K} {τ : Nat → Nat} {I : cr_I} {x1 : Int32} {x4 : Int32} {x5 : Int32} (hτ : cr_tau τ)  (h : cr_Ok yX9_layWishes cX9_layWishes 7 none (cr_rm0 2 52) K 247 247 Γ) (hyp : ((I 200 13) ≤ x5 → ((0 ≤ ((6 : Int32) * x1).toInt ∧ ((6 : Int32) * x1).toInt < 192) ∧ (0 ≤ (I 236 ((6 : Int32) * x1).toNatClampNeg) → True) ∧ (¬ 0 ≤ (I 236 ((6 : Int32) * x1).toNatClampNeg) → ((0 ≤ ((6 : Int32) * x1).toInt ∧ ((6 : Int32) * x1).toInt < 192) ∧ True)) ∧ ((0 ≤ x1.toInt ∧ x1.toInt < 32) ∧ (∀ J2 : cr_I, J2 = cr_up I 239 x1.toNatClampNeg (if 0 ≤ (I 236 ((6 : Int32) * x1).toNatClampNeg) then (0 : Int32) else (-(I 236 ((6 : Int32) * x1).toNatClampNeg))) → K none J2 (cr_rf τ))))) ∧ (¬ (I 200 13) ≤ x5 → (∀ v3 : Int32, v3 = (((6 : Int32) * x1) + x5) → ((x5 = 0 → True) ∧ (¬ x5 = 0 → ((¬ x4 = (-1 : Int32) → ((0 ≤ x4.toInt ∧ x4.toInt < 32) ∧ True)) ∧ (x4 = (-1 : Int32) → True))) ∧ ((0 ≤ v3.toInt ∧ v3.toInt < 192) ∧ (∀ J4 : cr_I, J4 = cr_up I 237 v3.toNatClampNeg (if x5 = 0 then (0 : Int32) else (if x4 = (-1 : Int32) then (0 : Int32) else (I 239 x4.toNatClampNeg))) → ((0 ≤ v3.toInt ∧ v3.toInt < 192) ∧ (∀ J5 : cr_I, J5 = cr_up J4 238 v3.toNatClampNeg (if x5 = 0 then (99 : Int32) else (if x4 = (-1 : Int32) then (99 : Int32) else (x1 - x4))) → (((f_yX9_isStrange τ x5 x1 J5) = 0 → ((¬ x5 = 0 → ((0 ≤ x5.toInt ∧ x5.toInt < 6) ∧ ((0 ≤ x5.toInt ∧ x5.toInt < 6) ∧ ((0 ≤ x5.toInt ∧ x5.toInt < 6) ∧ ((0 ≤ (x5 - (1 : Int32)).toInt ∧ (x5 - (1 : Int32)).toInt < 6) ∧ ((0 ≤ v3.toInt ∧ v3.toInt < 192) ∧ ((0 ≤ v3.toInt ∧ v3.toInt < 192) ∧ (p_yX9_wishBy τ (J5 213 x5.toNatClampNeg) (J5 241 x5.toNatClampNeg) (J5 240 x5.toNatClampNeg) (J5 240 (x5 - (1 : Int32)).toNatClampNeg) (J5 237 v3.toNatClampNeg) (J5 238 v3.toNatClampNeg) J5 ∧ True)))))))) ∧ (x5 = 0 → (p_yX9_pushedIn τ x1 J5 ∧ True)) ∧ ((0 ≤ v3.toInt ∧ v3.toInt < 192) ∧ (∀ J6 : cr_I, J6 = cr_up J5 236 v3.toNatClampNeg (if x5 = 0 then (f_yX9_pushedIn τ x1 J5) else (f_yX9_wishBy τ (J5 213 x5.toNatClampNeg) (J5 241 x5.toNatClampNeg) (J5 240 x5.toNatClampNeg) (J5 240 (x5 - (1 : Int32)).toNatClampNeg) (J5 237 v3.toNatClampNeg) (J5 238 v3.toNatClampNeg) J5)) → (∀ v4 : Int32, v4 = x5 + (1 : Int32) → cr_V Γ 41 [.ref 200, .int x1, .null, .null, .int x4, .int v4, .null] [] J6 (cr_rf τ) 247))))) ∧ (¬ (f_yX9_isStrange τ x5 x1 J5) = 0 → ((¬ x1 = (J5 200 26) → True) ∧ (x1 = (J5 200 26) → ((0 ≤ x5.toInt ∧ x5.toInt < 6) ∧ True)) ∧ (∀ J8 : cr_I, J8 = cr_up J5 200 60 (if x1 = (J5 200 26) then ((J5 241 x5.toNatClampNeg) / (2 : Int32)) else (J5 200 60)) → ((0 ≤ x5.toInt ∧ x5.toInt < 6) ∧ (0 ≤ x5.toInt ∧ x5.toInt < 6) ∧ (0 ≤ v3.toInt ∧ v3.toInt < 192) ∧ (0 ≤ v3.toInt ∧ v3.toInt < 192) ∧ p_yX9_wishBy τ (J8 213 x5.toNatClampNeg) (J8 200 60) (J8 240 x5.toNatClampNeg) (J8 200 28) (J8 237 v3.toNatClampNeg) (J8 238 v3.toNatClampNeg) J8 ∧ (0 ≤ v3.toInt ∧ v3.toInt < 192) ∧ (∀ J9 : cr_I, J9 = cr_up J8 236 v3.toNatClampNeg (f_yX9_wishBy τ (J8 213 x5.toNatClampNeg) (J8 200 60) (J8 240 x5.toNatClampNeg) (J8 200 28) (J8 237 v3.toNatClampNeg) (J8 238 v3.toNatClampNeg) J8) → (∀ v5 : Int32, v5 = x5 + (1 : Int32) → cr_V Γ 41 [.ref 200, .int x1, .null, .null, .int x4, .int v5, .null] [] J9 (cr_rf τ) 247))))))))))))))) : cr_V Γ 41 [.ref 200, .int x1, .null, .null, .int x4, .int x5, .null] [] I (cr_rf τ) 247 := by
  refine cr_iload h rfl dX9_layWishes_41 ?_
  refine cr_aload_n h (j := 0) rfl rfl dX9_layWishes_43 ?_
  refine cr_getI h (k := 13) cr_clsX9 (by decide) rfl rfl wf_X9_46 (by decide) rfl dX9_layWishes_44 ?_
  refine cr_icmp_ge h (tgt := 277) (by decide) dX9_layWishes_47 (fun c3 => ?_) (fun c3 => ?_)
  · have hyp := hyp.1 c3
    refine cr_aload_n h (j := 0) rfl rfl dX9_layWishes_277 ?_
    refine cr_getR h (k := 54) cr_clsX9 (by decide) rfl rfl wf_X9_128 (by decide) rfl rfl dX9_layWishes_278 ?_
    refine cr_iload_n h (j := 1) rfl rfl dX9_layWishes_281 ?_
    refine cr_aload_n h (j := 0) rfl rfl dX9_layWishes_282 ?_
    refine cr_getR h (k := 51) cr_clsX9 (by decide) rfl rfl wf_X9_119 (by decide) rfl rfl dX9_layWishes_283 ?_
    refine cr_bipush h (v := (6 : Int32)) (by decide) dX9_layWishes_286 ?_
    refine cr_iload_n h (j := 1) rfl rfl dX9_layWishes_288 ?_
    refine cr_imul h dX9_layWishes_289 ?_
    refine cs_ild h (by decide) rfl hyp.1 (q := ((6 : Int32) * x1).toNatClampNeg) rfl dX9_layWishes_290 ?_
    have hyp := hyp.2
    have hsJ3 := hyp.1
    have htJ3 := hyp.2.1
    have hyp := hyp.2.2
    have J3 : cr_V Γ 308 [.ref 200, .int x1, .null, .null, .int x4, .int x5, .null] [.int (if 0 ≤ (I 236 ((6 : Int32) * x1).toNatClampNeg) then (0 : Int32) else (-(I 236 ((6 : Int32) * x1).toNatClampNeg))), .int x1, .ref 239] I (cr_rf τ) 247 := by
      refine cs_ist h (by decide) (by decide) rfl hyp.1 (q := x1.toNatClampNeg) rfl dX9_layWishes_308 (fun J2 eJ2 => ?_)
      have hyp := hyp.2 J2 eJ2
      refine cr_vret h rfl rfl dX9_layWishes_309 ?_
      exact hyp
    refine cr_if_ge h (tgt := 307) (by decide) dX9_layWishes_291 (fun c4 => ?_) (fun c4 => ?_)
    · refine cr_iconst h (v := (0 : Int32)) (by decide) dX9_layWishes_307 ?_
      exact cr_ite (by rw [if_pos c4]) J3
    · have hyp := htJ3 c4
      refine cr_aload_n h (j := 0) rfl rfl dX9_layWishes_294 ?_
      refine cr_getR h (k := 51) cr_clsX9 (by decide) rfl rfl wf_X9_119 (by decide) rfl rfl dX9_layWishes_295 ?_
      refine cr_bipush h (v := (6 : Int32)) (by decide) dX9_layWishes_298 ?_
      refine cr_iload_n h (j := 1) rfl rfl dX9_layWishes_300 ?_
      refine cr_imul h dX9_layWishes_301 ?_
      refine cs_ild h (by decide) rfl hyp.1 (q := ((6 : Int32) * x1).toNatClampNeg) rfl dX9_layWishes_302 ?_
      have hyp := hyp.2
      refine cr_ineg h dX9_layWishes_303 ?_
      refine cr_goto h (tgt := 308) (by decide) dX9_layWishes_304 ?_
      exact cr_ite (by rw [if_neg c4]) J3
  · have hyp := hyp.2 c3
    refine cr_bipush h (v := (6 : Int32)) (by decide) dX9_layWishes_50 ?_
    refine cr_iload_n h (j := 1) rfl rfl dX9_layWishes_52 ?_
    refine cr_imul h dX9_layWishes_53 ?_
    refine cr_iload h rfl dX9_layWishes_54 ?_
    refine cr_iadd h dX9_layWishes_56 ?_
    refine cs_i h 6 (by decide) rfl dX9_layWishes_57 (fun v3 ev3 => ?_)
    have hyp := hyp v3 ev3
    show cr_V Γ 59 [.ref 200, .int x1, .null, .null, .int x4, .int x5, .int v3] [] I (cr_rf τ) 247
    refine cr_aload_n h (j := 0) rfl rfl dX9_layWishes_59 ?_
    refine cr_getR h (k := 52) cr_clsX9 (by decide) rfl rfl wf_X9_122 (by decide) rfl rfl dX9_layWishes_60 ?_
    refine cr_iload h rfl dX9_layWishes_63 ?_
    refine cr_iload h rfl dX9_layWishes_65 ?_
    have hsJ12 := hyp.1
    have htJ12 := hyp.2.1
    have hyp := hyp.2.2
    have J12 : cr_V Γ 87 [.ref 200, .int x1, .null, .null, .int x4, .int x5, .int v3] [.int (if x5 = 0 then (0 : Int32) else (if x4 = (-1 : Int32) then (0 : Int32) else (I 239 x4.toNatClampNeg))), .int v3, .ref 237] I (cr_rf τ) 247 := by
      refine cs_ist h (by decide) (by decide) rfl hyp.1 (q := v3.toNatClampNeg) rfl dX9_layWishes_87 (fun J4 eJ4 => ?_)
      have hyp := hyp.2 J4 eJ4
      refine cr_aload_n h (j := 0) rfl rfl dX9_layWishes_88 ?_
      refine cr_getR h (k := 53) cr_clsX9 (by decide) rfl rfl wf_X9_125 (by decide) rfl rfl dX9_layWishes_89 ?_
      refine cr_iload h rfl dX9_layWishes_92 ?_
      refine cr_iload h rfl dX9_layWishes_94 ?_
      have J11 : cr_V Γ 114 [.ref 200, .int x1, .null, .null, .int x4, .int x5, .int v3] [.int (if x5 = 0 then (99 : Int32) else (if x4 = (-1 : Int32) then (99 : Int32) else (x1 - x4))), .int v3, .ref 238] J4 (cr_rf τ) 247 := by
        refine cs_ist h (by decide) (by decide) rfl hyp.1 (q := v3.toNatClampNeg) rfl dX9_layWishes_114 (fun J5 eJ5 => ?_)
        have hyp := hyp.2 J5 eJ5
        refine cr_aload_n h (j := 0) rfl rfl dX9_layWishes_115 ?_
        refine cr_iload h rfl dX9_layWishes_116 ?_
        refine cr_iload_n h (j := 1) rfl rfl dX9_layWishes_118 ?_
        refine cr_callV h (c0 := 9) (T0 := TX9) C_yX9_isStrange cZ_yX9_isStrange wm_X9_298 wv_yX9_isStrange we_yX9_isStrange (by decide) rfl rfl (cr_rmS (by decide) (by decide)) (As := [.int x5, .int x1]) rfl (Nat.le_of_ble_eq_true rfl) dX9_layWishes_119 ⟨τ, x5, x1, rfl, hτ, rfl, ?_⟩
        show cr_V Γ 122 [.ref 200, .int x1, .null, .null, .int x4, .int x5, .int v3] [.int (f_yX9_isStrange τ x5 x1 J5)] J5 (cr_rf τ) 247
        refine cr_if_eq h (tgt := 203) (by decide) dX9_layWishes_122 (fun c9 => ?_) (fun c9 => ?_)
        · have hyp := hyp.1 c9
          refine cr_aload_n h (j := 0) rfl rfl dX9_layWishes_203 ?_
          refine cr_getR h (k := 51) cr_clsX9 (by decide) rfl rfl wf_X9_119 (by decide) rfl rfl dX9_layWishes_204 ?_
          refine cr_iload h rfl dX9_layWishes_207 ?_
          refine cr_iload h rfl dX9_layWishes_209 ?_
          have hsJ7 := hyp.1
          have htJ7 := hyp.2.1
          have hyp := hyp.2.2
          have J7 : cr_V Γ 270 [.ref 200, .int x1, .null, .null, .int x4, .int x5, .int v3] [.int (if x5 = 0 then (f_yX9_pushedIn τ x1 J5) else (f_yX9_wishBy τ (J5 213 x5.toNatClampNeg) (J5 241 x5.toNatClampNeg) (J5 240 x5.toNatClampNeg) (J5 240 (x5 - (1 : Int32)).toNatClampNeg) (J5 237 v3.toNatClampNeg) (J5 238 v3.toNatClampNeg) J5)), .int v3, .ref 236] J5 (cr_rf τ) 247 := by
            refine cs_ist h (by decide) (by decide) rfl hyp.1 (q := v3.toNatClampNeg) rfl dX9_layWishes_270 (fun J6 eJ6 => ?_)
            have hyp := hyp.2 J6 eJ6
            refine cs_inc h (v := (1 : Int32)) 5 rfl (by decide) (by decide) rfl dX9_layWishes_271 (fun v4 ev4 => ?_)
            have hyp := hyp v4 ev4
            show cr_V Γ 274 [.ref 200, .int x1, .null, .null, .int x4, .int v4, .int v3] [] J6 (cr_rf τ) 247
            refine cr_goto h (tgt := 41) (by decide) dX9_layWishes_274 ?_
            exact cr_weak [true, true, false, false, true, true, false] hyp
          refine cr_if_ne h (tgt := 222) (by decide) dX9_layWishes_211 (fun c10 => ?_) (fun c10 => ?_)
          · have hyp := hsJ7 c10
            refine cr_aload_n h (j := 0) rfl rfl dX9_layWishes_222 ?_
            refine cr_aload_n h (j := 0) rfl rfl dX9_layWishes_223 ?_
            refine cr_getR h (k := 14) cr_clsX9 (by decide) rfl rfl wf_X9_50 (by decide) rfl rfl dX9_layWishes_224 ?_
            refine cr_iload h rfl dX9_layWishes_227 ?_
            refine cs_ild h (by decide) rfl hyp.1 (q := x5.toNatClampNeg) rfl dX9_layWishes_229 ?_
            have hyp := hyp.2
            refine cr_aload_n h (j := 0) rfl rfl dX9_layWishes_230 ?_
            refine cr_getR h (k := 58) cr_clsX9 (by decide) rfl rfl wf_X9_134 (by decide) rfl rfl dX9_layWishes_231 ?_
            refine cr_iload h rfl dX9_layWishes_234 ?_
            refine cs_ild h (by decide) rfl hyp.1 (q := x5.toNatClampNeg) rfl dX9_layWishes_236 ?_
            have hyp := hyp.2
            refine cr_aload_n h (j := 0) rfl rfl dX9_layWishes_237 ?_
            refine cr_getR h (k := 57) cr_clsX9 (by decide) rfl rfl wf_X9_131 (by decide) rfl rfl dX9_layWishes_238 ?_
            refine cr_iload h rfl dX9_layWishes_241 ?_
            refine cs_ild h (by decide) rfl hyp.1 (q := x5.toNatClampNeg) rfl dX9_layWishes_243 ?_
            have hyp := hyp.2
            refine cr_aload_n h (j := 0) rfl rfl dX9_layWishes_244 ?_
            refine cr_getR h (k := 57) cr_clsX9 (by decide) rfl rfl wf_X9_131 (by decide) rfl rfl dX9_layWishes_245 ?_
            refine cr_iload h rfl dX9_layWishes_248 ?_
            refine cr_iconst h (v := (1 : Int32)) (by decide) dX9_layWishes_250 ?_
            refine cr_isub h dX9_layWishes_251 ?_
            refine cs_ild h (by decide) rfl hyp.1 (q := (x5 - (1 : Int32)).toNatClampNeg) rfl dX9_layWishes_252 ?_
            have hyp := hyp.2
            refine cr_aload_n h (j := 0) rfl rfl dX9_layWishes_253 ?_
            refine cr_getR h (k := 52) cr_clsX9 (by decide) rfl rfl wf_X9_122 (by decide) rfl rfl dX9_layWishes_254 ?_
            refine cr_iload h rfl dX9_layWishes_257 ?_
            refine cs_ild h (by decide) rfl hyp.1 (q := v3.toNatClampNeg) rfl dX9_layWishes_259 ?_
            have hyp := hyp.2
            refine cr_aload_n h (j := 0) rfl rfl dX9_layWishes_260 ?_
            refine cr_getR h (k := 53) cr_clsX9 (by decide) rfl rfl wf_X9_125 (by decide) rfl rfl dX9_layWishes_261 ?_
            refine cr_iload h rfl dX9_layWishes_264 ?_
            refine cs_ild h (by decide) rfl hyp.1 (q := v3.toNatClampNeg) rfl dX9_layWishes_266 ?_
            have hyp := hyp.2
            refine cr_callV h (c0 := 9) (T0 := TX9) C_yX9_wishBy cZ_yX9_wishBy wm_X9_305 wv_yX9_wishBy we_yX9_wishBy (by decide) rfl rfl (cr_rmS (by decide) (by decide)) (As := [.int (J5 213 x5.toNatClampNeg), .int (J5 241 x5.toNatClampNeg), .int (J5 240 x5.toNatClampNeg), .int (J5 240 (x5 - (1 : Int32)).toNatClampNeg), .int (J5 237 v3.toNatClampNeg), .int (J5 238 v3.toNatClampNeg)]) rfl (Nat.le_of_ble_eq_true rfl) dX9_layWishes_267 ⟨τ, (J5 213 x5.toNatClampNeg), (J5 241 x5.toNatClampNeg), (J5 240 x5.toNatClampNeg), (J5 240 (x5 - (1 : Int32)).toNatClampNeg), (J5 237 v3.toNatClampNeg), (J5 238 v3.toNatClampNeg), rfl, hτ, rfl, hyp.1, ?_⟩
            have hyp := hyp.2
            show cr_V Γ 270 [.ref 200, .int x1, .null, .null, .int x4, .int x5, .int v3] [.int (f_yX9_wishBy τ (J5 213 x5.toNatClampNeg) (J5 241 x5.toNatClampNeg) (J5 240 x5.toNatClampNeg) (J5 240 (x5 - (1 : Int32)).toNatClampNeg) (J5 237 v3.toNatClampNeg) (J5 238 v3.toNatClampNeg) J5), .int v3, .ref 236] J5 (cr_rf τ) 247
            exact cr_ite (by rw [if_neg c10]) J7
          · have hyp := htJ7 c10
            refine cr_aload_n h (j := 0) rfl rfl dX9_layWishes_214 ?_
            refine cr_iload_n h (j := 1) rfl rfl dX9_layWishes_215 ?_
            refine cr_callV h (c0 := 9) (T0 := TX9) C_yX9_pushedIn cZ_yX9_pushedIn wm_X9_309 wv_yX9_pushedIn we_yX9_pushedIn (by decide) rfl rfl (cr_rmS (by decide) (by decide)) (As := [.int x1]) rfl (Nat.le_of_ble_eq_true rfl) dX9_layWishes_216 ⟨τ, x1, rfl, hτ, rfl, hyp.1, ?_⟩
            have hyp := hyp.2
            show cr_V Γ 219 [.ref 200, .int x1, .null, .null, .int x4, .int x5, .int v3] [.int (f_yX9_pushedIn τ x1 J5), .int v3, .ref 236] J5 (cr_rf τ) 247
            refine cr_goto h (tgt := 270) (by decide) dX9_layWishes_219 ?_
            exact cr_ite (by rw [if_pos c10]) J7
        · have hyp := hyp.2 c9
          refine cr_aload_n h (j := 0) rfl rfl dX9_layWishes_125 ?_
          refine cr_iload_n h (j := 1) rfl rfl dX9_layWishes_126 ?_
          refine cr_aload_n h (j := 0) rfl rfl dX9_layWishes_127 ?_
          refine cr_getI h (k := 26) cr_clsX9 (by decide) rfl rfl wf_X9_271 (by decide) rfl dX9_layWishes_128 ?_
          have hsJ10 := hyp.1
          have htJ10 := hyp.2.1
          have hyp := hyp.2.2
          have J10 : cr_V Γ 150 [.ref 200, .int x1, .null, .null, .int x4, .int x5, .int v3] [.int (if x1 = (J5 200 26) then ((J5 241 x5.toNatClampNeg) / (2 : Int32)) else (J5 200 60)), .ref 200] J5 (cr_rf τ) 247 := by
            refine cs_put h (k := 60) cr_clsX9 (by decide) rfl rfl rfl rfl wf_X9_302 (by decide) (by decide) rfl dX9_layWishes_150 (fun J8 eJ8 => ?_)
            have hyp := hyp J8 eJ8
            refine cr_aload_n h (j := 0) rfl rfl dX9_layWishes_153 ?_
            refine cr_getR h (k := 51) cr_clsX9 (by decide) rfl rfl wf_X9_119 (by decide) rfl rfl dX9_layWishes_154 ?_
            refine cr_iload h rfl dX9_layWishes_157 ?_
            refine cr_aload_n h (j := 0) rfl rfl dX9_layWishes_159 ?_
            refine cr_aload_n h (j := 0) rfl rfl dX9_layWishes_160 ?_
            refine cr_getR h (k := 14) cr_clsX9 (by decide) rfl rfl wf_X9_50 (by decide) rfl rfl dX9_layWishes_161 ?_
            refine cr_iload h rfl dX9_layWishes_164 ?_
            refine cs_ild h (by decide) rfl hyp.1 (q := x5.toNatClampNeg) rfl dX9_layWishes_166 ?_
            have hyp := hyp.2
            refine cr_aload_n h (j := 0) rfl rfl dX9_layWishes_167 ?_
            refine cr_getI h (k := 60) cr_clsX9 (by decide) rfl rfl wf_X9_302 (by decide) rfl dX9_layWishes_168 ?_
            refine cr_aload_n h (j := 0) rfl rfl dX9_layWishes_171 ?_
            refine cr_getR h (k := 57) cr_clsX9 (by decide) rfl rfl wf_X9_131 (by decide) rfl rfl dX9_layWishes_172 ?_
            refine cr_iload h rfl dX9_layWishes_175 ?_
            refine cs_ild h (by decide) rfl hyp.1 (q := x5.toNatClampNeg) rfl dX9_layWishes_177 ?_
            have hyp := hyp.2
            refine cr_aload_n h (j := 0) rfl rfl dX9_layWishes_178 ?_
            refine cr_getI h (k := 28) cr_clsX9 (by decide) rfl rfl wf_X9_277 (by decide) rfl dX9_layWishes_179 ?_
            refine cr_aload_n h (j := 0) rfl rfl dX9_layWishes_182 ?_
            refine cr_getR h (k := 52) cr_clsX9 (by decide) rfl rfl wf_X9_122 (by decide) rfl rfl dX9_layWishes_183 ?_
            refine cr_iload h rfl dX9_layWishes_186 ?_
            refine cs_ild h (by decide) rfl hyp.1 (q := v3.toNatClampNeg) rfl dX9_layWishes_188 ?_
            have hyp := hyp.2
            refine cr_aload_n h (j := 0) rfl rfl dX9_layWishes_189 ?_
            refine cr_getR h (k := 53) cr_clsX9 (by decide) rfl rfl wf_X9_125 (by decide) rfl rfl dX9_layWishes_190 ?_
            refine cr_iload h rfl dX9_layWishes_193 ?_
            refine cs_ild h (by decide) rfl hyp.1 (q := v3.toNatClampNeg) rfl dX9_layWishes_195 ?_
            have hyp := hyp.2
            refine cr_callV h (c0 := 9) (T0 := TX9) C_yX9_wishBy cZ_yX9_wishBy wm_X9_305 wv_yX9_wishBy we_yX9_wishBy (by decide) rfl rfl (cr_rmS (by decide) (by decide)) (As := [.int (J8 213 x5.toNatClampNeg), .int (J8 200 60), .int (J8 240 x5.toNatClampNeg), .int (J8 200 28), .int (J8 237 v3.toNatClampNeg), .int (J8 238 v3.toNatClampNeg)]) rfl (Nat.le_of_ble_eq_true rfl) dX9_layWishes_196 ⟨τ, (J8 213 x5.toNatClampNeg), (J8 200 60), (J8 240 x5.toNatClampNeg), (J8 200 28), (J8 237 v3.toNatClampNeg), (J8 238 v3.toNatClampNeg), rfl, hτ, rfl, hyp.1, ?_⟩
            have hyp := hyp.2
            show cr_V Γ 199 [.ref 200, .int x1, .null, .null, .int x4, .int x5, .int v3] [.int (f_yX9_wishBy τ (J8 213 x5.toNatClampNeg) (J8 200 60) (J8 240 x5.toNatClampNeg) (J8 200 28) (J8 237 v3.toNatClampNeg) (J8 238 v3.toNatClampNeg) J8), .int v3, .ref 236] J8 (cr_rf τ) 247
            refine cs_ist h (by decide) (by decide) rfl hyp.1 (q := v3.toNatClampNeg) rfl dX9_layWishes_199 (fun J9 eJ9 => ?_)
            have hyp := hyp.2 J9 eJ9
            refine cr_goto h (tgt := 271) (by decide) dX9_layWishes_200 ?_
            refine cs_inc h (v := (1 : Int32)) 5 rfl (by decide) (by decide) rfl dX9_layWishes_271 (fun v5 ev5 => ?_)
            have hyp := hyp v5 ev5
            show cr_V Γ 274 [.ref 200, .int x1, .null, .null, .int x4, .int v5, .int v3] [] J9 (cr_rf τ) 247
            refine cr_goto h (tgt := 41) (by decide) dX9_layWishes_274 ?_
            exact cr_weak [true, true, false, false, true, true, false] hyp
          refine cr_icmp_ne h (tgt := 146) (by decide) dX9_layWishes_131 (fun c11 => ?_) (fun c11 => ?_)
          · refine cr_aload_n h (j := 0) rfl rfl dX9_layWishes_146 ?_
            refine cr_getI h (k := 60) cr_clsX9 (by decide) rfl rfl wf_X9_302 (by decide) rfl dX9_layWishes_147 ?_
            exact cr_ite (by rw [if_neg c11]) J10
          · have hyp := htJ10 c11
            refine cr_aload_n h (j := 0) rfl rfl dX9_layWishes_134 ?_
            refine cr_getR h (k := 58) cr_clsX9 (by decide) rfl rfl wf_X9_134 (by decide) rfl rfl dX9_layWishes_135 ?_
            refine cr_iload h rfl dX9_layWishes_138 ?_
            refine cs_ild h (by decide) rfl hyp.1 (q := x5.toNatClampNeg) rfl dX9_layWishes_140 ?_
            have hyp := hyp.2
            refine cr_iconst h (v := (2 : Int32)) (by decide) dX9_layWishes_141 ?_
            refine cr_idiv h (by decide) dX9_layWishes_142 ?_
            refine cr_goto h (tgt := 150) (by decide) dX9_layWishes_143 ?_
            exact cr_ite (by rw [if_pos c11]) J10
      refine cr_if_eq h (tgt := 105) (by decide) dX9_layWishes_96 (fun c7 => ?_) (fun c7 => ?_)
      · refine cr_bipush h (v := (99 : Int32)) (by decide) dX9_layWishes_105 ?_
        refine cr_goto h (tgt := 114) (by decide) dX9_layWishes_107 ?_
        exact cr_ite (by rw [if_pos c7]) J11
      · refine cr_iload h rfl dX9_layWishes_99 ?_
        refine cr_iconst h (v := (-1 : Int32)) (by decide) dX9_layWishes_101 ?_
        refine cr_icmp_ne h (tgt := 110) (by decide) dX9_layWishes_102 (fun c8 => ?_) (fun c8 => ?_)
        · refine cr_iload_n h (j := 1) rfl rfl dX9_layWishes_110 ?_
          refine cr_iload h rfl dX9_layWishes_111 ?_
          refine cr_isub h dX9_layWishes_113 ?_
          exact cr_ite (by rw [if_neg c7, if_neg c8]) J11
        · refine cr_bipush h (v := (99 : Int32)) (by decide) dX9_layWishes_105 ?_
          refine cr_goto h (tgt := 114) (by decide) dX9_layWishes_107 ?_
          exact cr_ite (by rw [if_neg c7, if_pos c8]) J11
    refine cr_if_eq h (tgt := 76) (by decide) dX9_layWishes_67 (fun c5 => ?_) (fun c5 => ?_)
    · refine cr_iconst h (v := (0 : Int32)) (by decide) dX9_layWishes_76 ?_
      refine cr_goto h (tgt := 87) (by decide) dX9_layWishes_77 ?_
      exact cr_ite (by rw [if_pos c5]) J12
    · have hyp := htJ12 c5
      refine cr_iload h rfl dX9_layWishes_70 ?_
      refine cr_iconst h (v := (-1 : Int32)) (by decide) dX9_layWishes_72 ?_
      refine cr_icmp_ne h (tgt := 80) (by decide) dX9_layWishes_73 (fun c6 => ?_) (fun c6 => ?_)
      · have hyp := hyp.1 c6
        refine cr_aload_n h (j := 0) rfl rfl dX9_layWishes_80 ?_
        refine cr_getR h (k := 54) cr_clsX9 (by decide) rfl rfl wf_X9_128 (by decide) rfl rfl dX9_layWishes_81 ?_
        refine cr_iload h rfl dX9_layWishes_84 ?_
        refine cs_ild h (by decide) rfl hyp.1 (q := x4.toNatClampNeg) rfl dX9_layWishes_86 ?_
        have hyp := hyp.2
        exact cr_ite (by rw [if_neg c5, if_neg c6]) J12
      · have hyp := hyp.2 c6
        refine cr_iconst h (v := (0 : Int32)) (by decide) dX9_layWishes_76 ?_
        refine cr_goto h (tgt := 87) (by decide) dX9_layWishes_77 ?_
        exact cr_ite (by rw [if_neg c5, if_pos c6]) J12
abbrev T_yX9_layWishes : cr_T := fun vs I R K => ∃ (τ : Nat → Nat) (x1 : Int32) (x2 : Int32) (x3 : Int32), R = cr_rf τ ∧ cr_tau τ ∧ vs = [.ref 200, .int x1, .int x2, .int x3] ∧ p_yX9_layWishes τ x1 x2 x3 I ∧ ∀ J, q_yX9_layWishes τ x1 x2 x3 I J → K none J (cr_rf τ)
abbrev S_yX9_layWishes : Prop := cr_C yX9_layWishes cX9_layWishes 7 none (cr_rm0 2 52) 247 247 T_yX9_layWishes
theorem G_yX9_layWishes (H : ∀ (Γ : cr_G) (K : cr_K) (τ : Nat → Nat) (x1 : Int32) (x2 : Int32) (x3 : Int32) (I : cr_I), cr_tau τ → cr_Ok yX9_layWishes cX9_layWishes 7 none (cr_rm0 2 52) K 247 247 Γ → p_yX9_layWishes τ x1 x2 x3 I → (∀ J, q_yX9_layWishes τ x1 x2 x3 I J → K none J (cr_rf τ)) → cr_V Γ 0 [.ref 200, .int x1, .int x2, .int x3, .null, .null, .null] [] I (cr_rf τ) 247) : cr_C yX9_layWishes cX9_layWishes 7 none (cr_rm0 2 52) 247 247 T_yX9_layWishes := by
  refine cr_C.of (by decide +kernel) (fun vs I R K hT => ?_) (fun Γ K h vs I R hT => ?_)
  · obtain ⟨τ, x1, x2, x3, rfl, hτ, rfl, hp, hK⟩ := hT
    exact Nat.le_of_ble_eq_true rfl
  · obtain ⟨τ, x1, x2, x3, rfl, hτ, rfl, hp, hK⟩ := hT
    exact H Γ K τ x1 x2 x3 I hτ h hp hK
theorem C_yX9_layWishes : S_yX9_layWishes := G_yX9_layWishes (by
  intro Γ K τ x1 x2 x3 I hτ h hp hK
  obtain ⟨hok, ⟨⟨h10, h11⟩, h20, h21⟩, hsay⟩ := hp
  obtain ⟨eN, h1, h6⟩ := hok.1.un
  obtain ⟨e1, ht⟩ := cr_ofI (B := 31) h10 h11
  obtain ⟨e2, hd⟩ := cr_ofI (B := 4) (x := x2) (by omega) h21
  have hd1 : 1 ≤ x2.toNatClampNeg := by show 1 ≤ x2.toInt.toNat; omega
  have hs := hok.2.1
  unfold q_yX9_layWishes at hK
  generalize hpe : cr_mpar I = pp at *
  have hpn : pn pp = cr_mn0 I := by rw [← hpe]; rfl
  have hpL : pL pp = (I 200 25).toNatClampNeg := by rw [← hpe]; rfl
  have hpfr : pfr pp = (I 200 26).toNatClampNeg := by rw [← hpe]; rfl
  have hpto : pto pp = (I 200 27).toNatClampNeg := by rw [← hpe]; rfl
  have hpss : pss pp = I 200 28 := by rw [← hpe]; rfl
  have hppw : ∀ t, ppw pp t = cr_mpw I (nI t) := fun t => by rw [← hpe]; rfl
  have hpwb : ∀ i v, i < cr_mn0 I → pwb pp i v = cr_mwb I (cr_mmk I i) v := fun i v hi => by rw [← hpe]; exact if_pos hi
  have hL5 : pL pp ≤ 5 := by have := hs.1; rw [hpL]; show (I 200 25).toInt.toNat ≤ 5; omega
  have hft : pfr pp ≤ pto pp := by have := hs.2.1; rw [hpfr, hpto]; show (I 200 26).toInt.toNat ≤ (I 200 27).toInt.toNat; omega
  have hfr31 : pfr pp ≤ 31 := by have := hs.2; rw [hpfr]; show (I 200 26).toInt.toNat ≤ 31; omega
  have e26 : I 200 26 = nI (pfr pp) := by rw [hpfr]; exact (cr_ofI (B := 31) hs.2.1.1 (by have := hs.2; omega)).1
  generalize cr_mn0 I = n at *
  generalize x1.toNatClampNeg = t at *
  generalize x2.toNatClampNeg = dl at *
  have sS : ∀ i, rS (cr_mms I) i = I 240 i := fun i => rfl
  have sG : ∀ i, rG (cr_mms I) i = I 241 i := fun i => rfl
  have sX : rX (cr_mms I) = I 200 60 := rfl
  have hxt : (0 : Int) ≤ (nI t).toInt ∧ (nI t).toInt < 32 := cr_ix (by omega) (by omega)
  -- what is heard
  have hHt : ∀ M : cr_I, cr_F (cr_PWm t) I M → (if cr_enc (cr_last x3 (t + 1 - dl)) = (-1 : Int32) then (0 : Int32) else M 239 (cr_enc (cr_last x3 (t + 1 - dl))).toNatClampNeg) = cr_Ht dl x3 t (cr_mms I) := by
    intro M hf
    unfold cr_Ht
    cases hl : cr_last x3 (t + 1 - dl) with
    | none => rfl
    | some u =>
      have hu := cr_last_lt _ hl
      have : ¬ cr_enc (some u) = -1 := fun z => by rw [cr_enc_1 (fun s hs => by cases hs; omega)] at z; cases z
      rw [if_neg this]
      show M 239 (nI u).toNatClampNeg = if I 236 (6 * u + 0) < 0 then -(I 236 (6 * u + 0)) else 0
      rw [cr_nc (by omega), hf 239 u (by unfold cr_PWm; omega)]
      exact hsay u (by omega)
  have hOt : (if cr_enc (cr_last x3 (t + 1 - dl)) = (-1 : Int32) then (99 : Int32) else nI t - cr_enc (cr_last x3 (t + 1 - dl))) = cr_Ot dl x3 t := by
    unfold cr_Ot
    cases hl : cr_last x3 (t + 1 - dl) with
    | none => rfl
    | some u =>
      have hu := cr_last_lt _ hl
      have : ¬ cr_enc (some u) = -1 := fun z => by rw [cr_enc_1 (fun s hs => by cases hs; omega)] at z; cases z
      rw [if_neg this]
      show nI t - nI u = nI (t - u)
      exact pk_sub (by omega)
  have hen : ¬ cr_enc (cr_last x3 (t + 1 - dl)) = (-1 : Int32) → (0 ≤ (cr_enc (cr_last x3 (t + 1 - dl))).toInt ∧ (cr_enc (cr_last x3 (t + 1 - dl))).toInt < 32) := by
    cases hl : cr_last x3 (t + 1 - dl) with
    | none => exact fun z => absurd rfl z
    | some u =>
      have hu := cr_last_lt _ hl
      exact fun _ => cr_ix (show (u : Int) < 32 by omega) (by omega)
  generalize hee : cr_enc (cr_last x3 (t + 1 - dl)) = en at *
  generalize hHe : cr_Ht dl x3 t (cr_mms I) = Ht at *
  generalize hOe : cr_Ot dl x3 t = Ot at *
  -- the wishes
  have wish : cr_V Γ 41 [.ref 200, .int (nI t), .null, .null, .int en, .int (0 : Int32), .null] [] I (cr_rf τ) 247 := by
    refine cr_loop (fun i => ∀ M : cr_I, cr_F (cr_PWm t) I M → M 239 t = I 239 t → (∀ j, j < i → M 236 (6 * t + j) = cr_Wt pp dl x3 t (cr_mms I) j ∧ M 237 (6 * t + j) = (if j = 0 then 0 else Ht) ∧ M 238 (6 * t + j) = (if j = 0 then 99 else Ot)) → M 200 60 = (if t = pfr pp ∧ 0 < pL pp ∧ pL pp < i then I 241 (pL pp) / 2 else I 200 60) → cr_V Γ 41 [.ref 200, .int (nI t), .null, .null, .int en, .int (nI i), .null] [] M (cr_rf τ) 247) n ?_ ?_ 0 (Nat.zero_le _) I cr_F.rf rfl (fun j hj => absurd hj (Nat.not_lt_zero _)) (by rw [if_neg (fun z => by omega)])
    · intro M hf h9 hj hX
      refine bk_yX9_layWishes_41 hτ h ⟨fun _ => ?_, fun c => absurd ?_ c⟩
      · rw [show (6 : Int32) * nI t = nI (6 * t) from pk_mul 6 t, cr_nc (show 6 * t < 100000 by omega), cr_nc (show t < 100000 by omega)]
        have hx6 : (0 : Int) ≤ (nI (6 * t)).toInt ∧ (nI (6 * t)).toInt < 192 := cr_ix (by omega) (by omega)
        refine ⟨hx6, fun _ => trivial, fun _ => ⟨hx6, trivial⟩, hxt, ?_⟩
        rw [cr_iten]
        rintro J2 rfl
        refine hK _ ⟨hf.up (by unfold cr_PWm; omega), fun i hi => ?_, ?_, ?_⟩
        · rw [cr_up_b (by decide), cr_up_b (by decide), cr_up_b (by decide)]
          exact hj i hi
        · rw [cr_up_b (by decide), hX]
          unfold cr_sgm
          rw [hpn, sG, sX]
        · rw [cr_up_s]
          unfold cr_hs1
          rw [cr_up_b (by decide)]
      · rw [hf 200 13 (by unfold cr_PWm; omega), eN]; exact Int32.le_refl _
    · intro i hi ih M hf h9 hj hX
      have hxi : (0 : Int) ≤ (nI i).toInt ∧ (nI i).toInt < 6 := cr_ix (by omega) (by omega)
      have hxk : (0 : Int) ≤ (nI (6 * t + i)).toInt ∧ (nI (6 * t + i)).toInt < 192 := cr_ix (by omega) (by omega)
      have hi0 : (nI i = 0) ↔ i = 0 := cr_neq (b := 0) (by omega) (by omega)
      refine bk_yX9_layWishes_41 hτ h ⟨fun c => absurd c ?_, fun _ => ?_⟩
      · rw [hf 200 13 (by unfold cr_PWm; omega), eN]; exact cr_nle hi (by omega)
      · rw [cr_6k (by omega) (by omega)]
        rintro v3 rfl
        rw [cr_nc (show 6 * t + i < 100000 by omega), cr_nc (show i < 100000 by omega)]
        refine ⟨fun _ => trivial, fun _ => ⟨fun c => ⟨hen c, trivial⟩, fun _ => trivial⟩, hxk, ?_⟩
        rw [hHt M hf, hOt]
        simp only [hi0]
        rintro J4 rfl
        refine ⟨hxk, ?_⟩
        rintro J5 e5
        have hf5 : cr_F (cr_PWm t) I J5 := by rw [e5]; exact (hf.up (by unfold cr_PWm; omega)).up (by unfold cr_PWm; omega)
        have h9' : J5 239 t = I 239 t := by rw [e5, cr_up_b (by decide), cr_up_b (by decide)]; exact h9
        have hj5 : ∀ j, j < i → J5 236 (6 * t + j) = cr_Wt pp dl x3 t (cr_mms I) j ∧ J5 237 (6 * t + j) = (if j = 0 then 0 else Ht) ∧ J5 238 (6 * t + j) = (if j = 0 then 99 else Ot) := by
          intro j hji
          rw [e5, cr_up_b (by decide), cr_up_b (by decide), cr_up_b (show (237 : Nat) ≠ 238 by decide), cr_up_k (by omega), cr_up_k (by omega), cr_up_b (show (238 : Nat) ≠ 237 by decide)]
          exact hj j hji
        have h7 : J5 237 (6 * t + i) = (if i = 0 then 0 else Ht) := by rw [e5, cr_up_b (by decide), cr_up_s]
        have h8 : J5 238 (6 * t + i) = (if i = 0 then 99 else Ot) := by rw [e5, cr_up_s]
        have hX5 : J5 200 60 = (if t = pfr pp ∧ 0 < pL pp ∧ pL pp < i then I 241 (pL pp) / 2 else I 200 60) := by rw [e5, cr_up_b (by decide), cr_up_b (by decide)]; exact hX
        clear e5 hj hX h9
        have hR5 := cr_PWm.w hf5
        have hok5 := hok.fr hR5
        have his : (f_yX9_isStrange τ (nI i) (nI t) J5 = 0) ↔ ¬ cr_strS pp i t := by
          rw [cr_mis hok5.2.1 (by omega) (by omega)]
          unfold cr_misP cr_strS
          rw [cr_PRm_f hR5 (k := 25) (by decide), cr_PRm_f hR5 (k := 26) (by decide), cr_PRm_f hR5 (k := 27) (by decide), hpL, hpfr, hpto]
        rw [his]
        have em : J5 213 i = I 213 i := by rw [cr_PRm_r hR5 (b := 213) (by decide)]
        have hmi := hok.2.2.2.1 i (by omega)
        have hmt : cr_mtok J5 (I 213 i).toNatClampNeg := (hok5.2.2.2.2.1 _ (cr_mmk_lt hok (i := i) (by omega))).2
        have eW : ∀ a b c d e, f_yX9_wishBy τ (I 213 i) a b c d e J5 = pwb pp i (cr_vals a b c d e) := fun a b c d e => by
          rw [hpwb i _ hi]
          show cr_mwb J5 (I 213 i).toNatClampNeg _ = _
          rw [cr_mwb_fr hR5]
          rfl
        have e40 : ∀ j, J5 240 j = I 240 j := fun j => hf5 240 j (by unfold cr_PWm; omega)
        have e41 : ∀ j, J5 241 j = I 241 j := fun j => hf5 241 j (by unfold cr_PWm; omega)
        rw [em]
        refine ⟨fun c => ⟨fun ci => ?_, fun ci => ?_, hxk, ?_⟩, fun c => ⟨fun _ => trivial, fun _ => ⟨hxi, trivial⟩, ?_⟩⟩
        · have hi1 : (0 : Int) ≤ (nI i - 1).toInt ∧ (nI i - 1).toInt < 6 := by
            rw [show i = (i - 1) + 1 by omega, nI_pred]
            exact cr_ix (by omega) (by omega)
          exact ⟨hxi, hxi, hxi, hi1, hxk, hxk, ⟨⟨hmi, hmt⟩, trivial⟩⟩
        · refine ⟨⟨?_, ?_⟩, trivial⟩
          · rw [cr_PRm_f hR5 (k := 18) (by decide)]; exact hok.2.2.1.1
          · rw [cr_PRm_r hR5 (b := 213) (by decide)]; exact hok.2.2.2.1 0 (by decide)
        · have ev : (if i = 0 then f_yX9_pushedIn τ (nI t) J5 else f_yX9_wishBy τ (I 213 i) (J5 241 i) (J5 240 i) (J5 240 (nI i - (1 : Int32)).toNatClampNeg) (J5 237 (6 * t + i)) (J5 238 (6 * t + i)) J5) = cr_Wt pp dl x3 t (cr_mms I) i := by
            unfold cr_Wt
            by_cases q : i = 0
            · rw [if_pos q, if_pos q, cr_mpw_eq, cr_mpw_fr hR5, hppw]
            · rw [if_neg q, if_neg q, if_neg c, eW, h7, h8, if_neg q, if_neg q, hHe, hOe, sG, sS, sS, e41, e40, e40]
              rw [show (nI i - (1 : Int32)).toNatClampNeg = i - 1 by rw [show i = (i - 1) + 1 by omega, nI_pred]; exact cr_nc (by omega)]
          rw [ev]
          rintro J6 rfl v4 rfl
          rw [nI_1]
          refine ih _ (hf5.up (by unfold cr_PWm; omega)) (by rw [cr_up_b (by decide)]; exact h9') (fun j hji => ?_) ?_
          · rw [cr_up_b (show (237 : Nat) ≠ 236 by decide), cr_up_b (show (238 : Nat) ≠ 236 by decide)]
            by_cases q : j = i
            · rw [q, cr_up_s]; exact ⟨rfl, h7, h8⟩
            · rw [cr_up_k (by omega)]; exact hj5 j (by omega)
          · rw [cr_up_b (by decide), hX5]
            by_cases q : t = pfr pp ∧ 0 < pL pp ∧ pL pp < i
            · rw [if_pos q, if_pos ⟨q.1, q.2.1, by omega⟩]
            · rw [if_neg q, if_neg (fun z => ?_)]
              by_cases y : pL pp = i
              · exact c ⟨z.2.1, y, by omega, by omega⟩
              · exact q ⟨z.1, z.2.1, by omega⟩
        · rw [Classical.not_not] at c
          have cL := c.2.1
          have c0 : 0 < pL pp := c.1
          rw [hX5, if_neg (show ¬ (t = pfr pp ∧ 0 < pL pp ∧ pL pp < i) from fun z => by omega), cr_PRm_f hR5 (k := 26) (by decide), e26, e41]
          have ets : (nI t = nI (pfr pp)) ↔ t = pfr pp := cr_neq (by omega) (by omega)
          have esg : (if nI t = nI (pfr pp) then I 241 i / (2 : Int32) else I 200 60) = cr_sgm pp t (cr_mms I) := by
            unfold cr_sgm
            rw [sG, sX, hpn, cL]
            by_cases q : t = pfr pp
            · rw [if_pos (ets.mpr q), if_pos ⟨q, by omega, hi⟩]
            · rw [if_neg (fun z => q (ets.mp z)), if_neg (fun z => q z.1)]
          rw [esg]
          rintro J8 rfl
          have hf8 : cr_F (cr_PWm t) I (cr_up J5 200 60 (cr_sgm pp t (cr_mms I))) := hf5.up (by unfold cr_PWm; omega)
          have hR8 := cr_PWm.w hf8
          have eW8 : ∀ a b c d e, f_yX9_wishBy τ (I 213 i) a b c d e (cr_up J5 200 60 (cr_sgm pp t (cr_mms I))) = pwb pp i (cr_vals a b c d e) := fun a b c d e => by
            rw [hpwb i _ hi]
            show cr_mwb _ (I 213 i).toNatClampNeg _ = _
            rw [cr_mwb_fr hR8]
            rfl
          have hmt8 : cr_mtok (cr_up J5 200 60 (cr_sgm pp t (cr_mms I))) (I 213 i).toNatClampNeg := ((hok.fr hR8).2.2.2.2.1 _ (cr_mmk_lt hok (i := i) (by omega))).2
          rw [cr_up_b (show (213 : Nat) ≠ 200 by decide), cr_up_s, cr_up_b (show (240 : Nat) ≠ 200 by decide), cr_up_k (show (28 : Nat) ≠ 60 by decide), cr_up_b (show (237 : Nat) ≠ 200 by decide), cr_up_b (show (238 : Nat) ≠ 200 by decide), em, h7, h8, e40, cr_PRm_f hR5 (k := 28) (by decide), eW8]
          refine ⟨hxi, hxi, hxk, hxk, ⟨hmi, hmt8⟩, hxk, ?_⟩
          have ev : pwb pp i (cr_vals (cr_sgm pp t (cr_mms I)) (I 240 i) (I 200 28) (if i = 0 then 0 else Ht) (if i = 0 then 99 else Ot)) = cr_Wt pp dl x3 t (cr_mms I) i := by
            unfold cr_Wt
            rw [if_neg (show ¬ i = 0 by omega), if_neg (show ¬ i = 0 by omega), if_neg (show ¬ i = 0 by omega), if_pos c, hHe, hOe, sS, hpss]
          rw [ev]
          rintro J9 rfl v5 rfl
          rw [nI_1]
          refine ih _ (hf8.up (by unfold cr_PWm; omega)) (by rw [cr_up_b (by decide), cr_up_b (by decide)]; exact h9') (fun j hji => ?_) ?_
          · rw [cr_up_b (show (237 : Nat) ≠ 236 by decide), cr_up_b (show (238 : Nat) ≠ 236 by decide), cr_up_b (show (237 : Nat) ≠ 200 by decide), cr_up_b (show (238 : Nat) ≠ 200 by decide)]
            by_cases q : j = i
            · rw [q, cr_up_s]; exact ⟨rfl, h7, h8⟩
            · rw [cr_up_k (by omega), cr_up_b (show (236 : Nat) ≠ 200 by decide)]; exact hj5 j (by omega)
          · rw [cr_up_b (by decide), cr_up_s]
            unfold cr_sgm
            rw [sG, sX, hpn]
            by_cases q : t = pfr pp
            · rw [if_pos ⟨q, c0, by omega⟩, if_pos ⟨q, c0, by omega⟩]
            · rw [if_neg (fun z => q z.1), if_neg (fun z => q z.1)]
  refine bk_yX9_layWishes_0 hτ h ?_
  rw [e1, e2]
  refine cr_loop (fun m => cr_V Γ 6 [.ref 200, .int (nI t), .int (nI dl), .int x3, .int (cr_enc (cr_last x3 m)), .int (nI m), .null] [] I (cr_rf τ) 247) (t + 1 - dl) ?_ ?_ 0 (Nat.zero_le _)
  · refine bk_yX9_layWishes_6 hτ h ⟨fun _ => by rw [hee]; exact wish, fun c => absurd ?_ c⟩
    rw [nI_add, cr_nlt (by omega) (by omega)]; omega
  · intro m hm ih
    refine bk_yX9_layWishes_6 hτ h ⟨fun c => absurd c ?_, fun _ => ?_⟩
    · rw [nI_add, cr_nlt (by omega) (by omega)]; omega
    · rintro v1 rfl v2 rfl
      rw [nI_1]
      have e : (if ((x3 >>> (nI m &&& 31)) &&& (1 : Int32)) = 0 then nI m else cr_enc (cr_last x3 m)) = cr_enc (cr_last x3 (m + 1)) := by
        rw [cr_last]
        by_cases q : cr_bit x3 (nI m) = 0
        · rw [if_pos q, if_pos (show ((x3 >>> (nI m &&& 31)) &&& (1 : Int32)) = 0 from q)]
          rfl
        · rw [if_neg q, if_neg (show ¬ ((x3 >>> (nI m &&& 31)) &&& (1 : Int32)) = 0 from q)]
      rw [e]
      exact ih)
