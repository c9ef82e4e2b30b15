/-! WHAT HOLDS BETWEEN THE CALLS: class and reference hold the same -/
theorem cr_up_n {α : Type} {f : Nat → Nat → α} {b k b' k' : Nat} {v : α} (h : ¬ (b' = b ∧ k' = k)) : cr_up f b k v b' k' = f b' k' := if_neg h
def cr_Rtx (I : cr_I) : Prop := (0 ≤ (I 1 1).toInt ∧ (I 1 1).toInt ≤ 160) ∧ I 200 5 = I 1 1 ∧ I 205 = I 2
def cr_Rmk (I : cr_I) : Prop := ∀ m, m < 4 → cr_mkok I m ∧ I 201 m = I (29 + 25 * m) 0 ∧ I 202 m = I (29 + 25 * m) 1 ∧ I 203 m = I (29 + 25 * m) 2 ∧ I 204 m = I (29 + 25 * m) 3
def cr_lR (b m : Nat) (I : cr_I) (l : Nat) : Prop := (cr_wk (I 207 (6 * m + l)) (I 208 (6 * m + l)) = I (b + 1) l ∧ (I 207 (6 * m + l) = 0 ∨ I 207 (6 * m + l) = 1 ∨ I 207 (6 * m + l) = 2) ∧ 0 ≤ (I 208 (6 * m + l)).toInt ∧ (I 208 (6 * m + l)).toInt ≤ 99) ∧ I 209 (6 * m + l) = I (b + 2) l ∧ cr_tlok b I l ∧ ∀ k, k < (I (b + 2) l).toNatClampNeg → I 210 (4 * (6 * m + l) + k) = I (b + 4 + l) k ∧ I 211 (4 * (6 * m + l) + k) = I (b + 18 + l) k ∧ I 212 (4 * (6 * m + l) + k) = I (b + 11 + l) k
def cr_tR (b m : Nat) (I : cr_I) : Prop := (0 ≤ (I b 0).toInt ∧ (I b 0).toInt ≤ 6) ∧ I 206 m = I b 0 ∧ ∀ l, l < (I b 0).toNatClampNeg → cr_lR b m I l
def cr_Rtb (τ : Nat → Nat) (I : cr_I) : Prop := ∀ m, m < 4 → cr_tR (τ m) m I
def cr_Rro (I : cr_I) : Prop := cr_nok I ∧ I 200 13 = I 27 1 ∧ I 213 = I 129 ∧ ∀ i, i < 6 → 0 ≤ (I 129 i).toInt ∧ (I 129 i).toInt < 4
def cr_Rse (I : cr_I) : Prop := I 214 = I 130 ∧ (1 ≤ (I 130 0).toInt ∧ (I 130 0).toInt ≤ 99) ∧ (0 ≤ (I 130 1).toInt ∧ (I 130 1).toInt ≤ 40) ∧ (0 ≤ (I 130 2).toInt ∧ (I 130 2).toInt ≤ 4) ∧ (0 ≤ (I 130 3).toInt ∧ (I 130 3).toInt ≤ 9) ∧ (0 ≤ (I 130 4).toInt ∧ (I 130 4).toInt ≤ 9)
def cr_Rpu (I : cr_I) : Prop := (0 ≤ (I 27 5).toInt ∧ (I 27 5).toInt ≤ 8) ∧ I 200 18 = I 27 5 ∧ I 215 = I 131 ∧ I 216 = I 132 ∧ ∀ k, -9 ≤ (I 132 k).toInt ∧ (I 132 k).toInt ≤ 5
def cr_Rlo (I : cr_I) : Prop := I 200 19 = I 27 4
def cr_Rhi (I : cr_I) : Prop := (0 ≤ (I 27 8).toInt ∧ (I 27 8).toInt ≤ 2) ∧ I 200 24 = I 27 8 ∧ I 217 = I 133 ∧ I 218 = I 134 ∧ I 219 = I 135 ∧ I 220 = I 136 ∧ ∀ k, 0 ≤ (I 136 k).toInt ∧ (I 136 k).toInt ≤ 40
def cr_Rst (I : cr_I) : Prop := cr_sok I ∧ (0 ≤ (I 27 16).toInt ∧ (I 27 16).toInt ≤ 40) ∧ I 200 25 = I 27 13 ∧ I 200 26 = I 27 14 ∧ I 200 27 = I 27 15 ∧ I 200 28 = I 27 16
def cr_Rjo (I : cr_I) : Prop := cr_jok I ∧ cr_hw (cr_jn I) (I 172) (I 173) ∧ I 200 34 = I 169 0 ∧ I 221 = I 170 ∧ I 222 = I 171 ∧ I 223 = I 172 ∧ I 224 = I 173 ∧ I 225 = I 174
def cr_Rsp (I : cr_I) : Prop := ∀ p, p < 6 → ∀ a, a < 6 → I 226 (6 * p + a) = I (179 + p) a ∧ 0 ≤ (I (179 + p) a).toInt ∧ (I (179 + p) a).toInt ≤ 99
def cr_Rck (I : cr_I) : Prop := cr_cw (I 186) (I 187) (I 188) (I 189) (I 190) (I 191) (I 185 4) ∧ I 186 6 = 0 ∧ (0 ≤ (I 185 1).toInt ∧ (I 185 1).toInt ≤ 12) ∧ I 200 39 = I 185 1 ∧ I 200 43 = I 185 4 ∧ I 227 = I 186 ∧ I 228 = I 187 ∧ I 229 = I 188 ∧ I 230 = I 189 ∧ I 231 = I 190 ∧ I 232 = I 191
def cr_Rel (τ : Nat → Nat) (I : cr_I) : Prop := cr_tau τ ∧ cr_Rtx I ∧ cr_Rmk I ∧ cr_Rtb τ I ∧ cr_Rro I ∧ cr_Rse I ∧ cr_Rpu I ∧ cr_Rlo I ∧ cr_Rhi I ∧ cr_Rst I ∧ cr_Rjo I ∧ cr_Rsp I ∧ cr_Rck I
/-! which places each of them reads -/
def rl_tx (b k : Nat) : Prop := (b = 1 ∧ k = 1) ∨ b = 2 ∨ (b = 200 ∧ k = 5) ∨ b = 205
def rl_mk (b k : Nat) : Prop := ((b = 29 ∨ b = 54 ∨ b = 79 ∨ b = 104) ∧ k < 4) ∨ (201 ≤ b ∧ b ≤ 204)
def rl_tm (b k : Nat) : Prop := (b = 206 ∧ k < 4) ∨ ((b = 207 ∨ b = 208 ∨ b = 209) ∧ k < 24) ∨ ((b = 210 ∨ b = 211 ∨ b = 212) ∧ k < 96)
def rl_tb (b k : Nat) : Prop := (3 ≤ b ∧ b ≤ 26) ∨ (30 ≤ b ∧ b ≤ 53) ∨ (55 ≤ b ∧ b ≤ 78) ∨ (80 ≤ b ∧ b ≤ 103) ∨ (105 ≤ b ∧ b ≤ 128) ∨ rl_tm b k
def rl_ro (b k : Nat) : Prop := (b = 27 ∧ k = 1) ∨ b = 129 ∨ (b = 200 ∧ k = 13) ∨ b = 213
def rl_se (b k : Nat) : Prop := b = 130 ∨ b = 214
def rl_pu (b k : Nat) : Prop := (b = 27 ∧ k = 5) ∨ b = 131 ∨ b = 132 ∨ (b = 200 ∧ k = 18) ∨ b = 215 ∨ b = 216
def rl_lo (b k : Nat) : Prop := (b = 27 ∧ k = 4) ∨ (b = 200 ∧ k = 19)
def rl_hi (b k : Nat) : Prop := (b = 27 ∧ k = 8) ∨ (133 ≤ b ∧ b ≤ 136) ∨ (b = 200 ∧ k = 24) ∨ (217 ≤ b ∧ b ≤ 220)
def rl_st (b k : Nat) : Prop := (b = 27 ∧ 13 ≤ k ∧ k ≤ 16) ∨ (b = 200 ∧ 25 ≤ k ∧ k ≤ 28)
def rl_jo (b k : Nat) : Prop := (b = 169 ∧ k = 0) ∨ (170 ≤ b ∧ b ≤ 174) ∨ (b = 200 ∧ k = 34) ∨ (221 ≤ b ∧ b ≤ 225)
def rl_sp (b k : Nat) : Prop := (179 ≤ b ∧ b ≤ 184) ∨ b = 226
def rl_ck (b k : Nat) : Prop := (b = 185 ∧ (k = 1 ∨ k = 4)) ∨ (186 ≤ b ∧ b ≤ 191) ∨ (b = 200 ∧ (k = 39 ∨ k = 43)) ∨ (227 ≤ b ∧ b ≤ 232)
def cr_rl (b k : Nat) : Prop := rl_tx b k ∨ rl_mk b k ∨ rl_tb b k ∨ rl_ro b k ∨ rl_se b k ∨ rl_pu b k ∨ rl_lo b k ∨ rl_hi b k ∨ rl_st b k ∨ rl_jo b k ∨ rl_sp b k ∨ rl_ck b k
abbrev cr_ag (P : Nat → Nat → Prop) (I J : cr_I) : Prop := ∀ b k, P b k → J b k = I b k
theorem cr_Rtx.fr {I J : cr_I} (h : cr_Rtx I) (e : cr_ag rl_tx I J) : cr_Rtx J := by
  have p1_1 : J 1 1 = I 1 1 := e 1 1 (by unfold rl_tx; omega)
  have p200_5 : J 200 5 = I 200 5 := e 200 5 (by unfold rl_tx; omega)
  have r2 : J 2 = I 2 := funext fun k => e 2 k (by unfold rl_tx; omega)
  have r205 : J 205 = I 205 := funext fun k => e 205 k (by unfold rl_tx; omega)
  unfold cr_Rtx at h ⊢
  simp only [r2, r205, p1_1, p200_5]
  exact h
theorem cr_Rro.fr {I J : cr_I} (h : cr_Rro I) (e : cr_ag rl_ro I J) : cr_Rro J := by
  have p27_1 : J 27 1 = I 27 1 := e 27 1 (by unfold rl_ro; omega)
  have p200_13 : J 200 13 = I 200 13 := e 200 13 (by unfold rl_ro; omega)
  have r129 : J 129 = I 129 := funext fun k => e 129 k (by unfold rl_ro; omega)
  have r213 : J 213 = I 213 := funext fun k => e 213 k (by unfold rl_ro; omega)
  unfold cr_Rro cr_nok at h ⊢
  simp only [r129, r213, p27_1, p200_13]
  exact h
theorem cr_Rse.fr {I J : cr_I} (h : cr_Rse I) (e : cr_ag rl_se I J) : cr_Rse J := by
  have r130 : J 130 = I 130 := funext fun k => e 130 k (by unfold rl_se; omega)
  have r214 : J 214 = I 214 := funext fun k => e 214 k (by unfold rl_se; omega)
  unfold cr_Rse at h ⊢
  simp only [r130, r214]
  exact h
theorem cr_Rpu.fr {I J : cr_I} (h : cr_Rpu I) (e : cr_ag rl_pu I J) : cr_Rpu J := by
  have p27_5 : J 27 5 = I 27 5 := e 27 5 (by unfold rl_pu; omega)
  have p200_18 : J 200 18 = I 200 18 := e 200 18 (by unfold rl_pu; omega)
  have r131 : J 131 = I 131 := funext fun k => e 131 k (by unfold rl_pu; omega)
  have r132 : J 132 = I 132 := funext fun k => e 132 k (by unfold rl_pu; omega)
  have r215 : J 215 = I 215 := funext fun k => e 215 k (by unfold rl_pu; omega)
  have r216 : J 216 = I 216 := funext fun k => e 216 k (by unfold rl_pu; omega)
  unfold cr_Rpu at h ⊢
  simp only [r131, r132, r215, r216, p27_5, p200_18]
  exact h
theorem cr_Rlo.fr {I J : cr_I} (h : cr_Rlo I) (e : cr_ag rl_lo I J) : cr_Rlo J := by
  have p27_4 : J 27 4 = I 27 4 := e 27 4 (by unfold rl_lo; omega)
  have p200_19 : J 200 19 = I 200 19 := e 200 19 (by unfold rl_lo; omega)
  unfold cr_Rlo at h ⊢
  simp only [p27_4, p200_19]
  exact h
theorem cr_Rhi.fr {I J : cr_I} (h : cr_Rhi I) (e : cr_ag rl_hi I J) : cr_Rhi J := by
  have p27_8 : J 27 8 = I 27 8 := e 27 8 (by unfold rl_hi; omega)
  have p200_24 : J 200 24 = I 200 24 := e 200 24 (by unfold rl_hi; omega)
  have r133 : J 133 = I 133 := funext fun k => e 133 k (by unfold rl_hi; omega)
  have r134 : J 134 = I 134 := funext fun k => e 134 k (by unfold rl_hi; omega)
  have r135 : J 135 = I 135 := funext fun k => e 135 k (by unfold rl_hi; omega)
  have r136 : J 136 = I 136 := funext fun k => e 136 k (by unfold rl_hi; omega)
  have r217 : J 217 = I 217 := funext fun k => e 217 k (by unfold rl_hi; omega)
  have r218 : J 218 = I 218 := funext fun k => e 218 k (by unfold rl_hi; omega)
  have r219 : J 219 = I 219 := funext fun k => e 219 k (by unfold rl_hi; omega)
  have r220 : J 220 = I 220 := funext fun k => e 220 k (by unfold rl_hi; omega)
  unfold cr_Rhi at h ⊢
  simp only [r133, r134, r135, r136, r217, r218, r219, r220, p27_8, p200_24]
  exact h
theorem cr_Rst.fr {I J : cr_I} (h : cr_Rst I) (e : cr_ag rl_st I J) : cr_Rst J := by
  have p27_13 : J 27 13 = I 27 13 := e 27 13 (by unfold rl_st; omega)
  have p27_14 : J 27 14 = I 27 14 := e 27 14 (by unfold rl_st; omega)
  have p27_15 : J 27 15 = I 27 15 := e 27 15 (by unfold rl_st; omega)
  have p27_16 : J 27 16 = I 27 16 := e 27 16 (by unfold rl_st; omega)
  have p200_25 : J 200 25 = I 200 25 := e 200 25 (by unfold rl_st; omega)
  have p200_26 : J 200 26 = I 200 26 := e 200 26 (by unfold rl_st; omega)
  have p200_27 : J 200 27 = I 200 27 := e 200 27 (by unfold rl_st; omega)
  have p200_28 : J 200 28 = I 200 28 := e 200 28 (by unfold rl_st; omega)
  unfold cr_Rst cr_sok at h ⊢
  simp only [p27_13, p27_14, p27_15, p27_16, p200_25, p200_26, p200_27, p200_28]
  exact h
theorem cr_Rjo.fr {I J : cr_I} (h : cr_Rjo I) (e : cr_ag rl_jo I J) : cr_Rjo J := by
  have p169_0 : J 169 0 = I 169 0 := e 169 0 (by unfold rl_jo; omega)
  have p200_34 : J 200 34 = I 200 34 := e 200 34 (by unfold rl_jo; omega)
  have r170 : J 170 = I 170 := funext fun k => e 170 k (by unfold rl_jo; omega)
  have r171 : J 171 = I 171 := funext fun k => e 171 k (by unfold rl_jo; omega)
  have r172 : J 172 = I 172 := funext fun k => e 172 k (by unfold rl_jo; omega)
  have r173 : J 173 = I 173 := funext fun k => e 173 k (by unfold rl_jo; omega)
  have r174 : J 174 = I 174 := funext fun k => e 174 k (by unfold rl_jo; omega)
  have r221 : J 221 = I 221 := funext fun k => e 221 k (by unfold rl_jo; omega)
  have r222 : J 222 = I 222 := funext fun k => e 222 k (by unfold rl_jo; omega)
  have r223 : J 223 = I 223 := funext fun k => e 223 k (by unfold rl_jo; omega)
  have r224 : J 224 = I 224 := funext fun k => e 224 k (by unfold rl_jo; omega)
  have r225 : J 225 = I 225 := funext fun k => e 225 k (by unfold rl_jo; omega)
  unfold cr_Rjo cr_jok cr_jn at h ⊢
  simp only [r170, r171, r172, r173, r174, r221, r222, r223, r224, r225, p169_0, p200_34]
  exact h
theorem cr_Rck.fr {I J : cr_I} (h : cr_Rck I) (e : cr_ag rl_ck I J) : cr_Rck J := by
  have p185_1 : J 185 1 = I 185 1 := e 185 1 (by unfold rl_ck; omega)
  have p185_4 : J 185 4 = I 185 4 := e 185 4 (by unfold rl_ck; omega)
  have p200_39 : J 200 39 = I 200 39 := e 200 39 (by unfold rl_ck; omega)
  have p200_43 : J 200 43 = I 200 43 := e 200 43 (by unfold rl_ck; omega)
  have r186 : J 186 = I 186 := funext fun k => e 186 k (by unfold rl_ck; omega)
  have r187 : J 187 = I 187 := funext fun k => e 187 k (by unfold rl_ck; omega)
  have r188 : J 188 = I 188 := funext fun k => e 188 k (by unfold rl_ck; omega)
  have r189 : J 189 = I 189 := funext fun k => e 189 k (by unfold rl_ck; omega)
  have r190 : J 190 = I 190 := funext fun k => e 190 k (by unfold rl_ck; omega)
  have r191 : J 191 = I 191 := funext fun k => e 191 k (by unfold rl_ck; omega)
  have r227 : J 227 = I 227 := funext fun k => e 227 k (by unfold rl_ck; omega)
  have r228 : J 228 = I 228 := funext fun k => e 228 k (by unfold rl_ck; omega)
  have r229 : J 229 = I 229 := funext fun k => e 229 k (by unfold rl_ck; omega)
  have r230 : J 230 = I 230 := funext fun k => e 230 k (by unfold rl_ck; omega)
  have r231 : J 231 = I 231 := funext fun k => e 231 k (by unfold rl_ck; omega)
  have r232 : J 232 = I 232 := funext fun k => e 232 k (by unfold rl_ck; omega)
  unfold cr_Rck at h ⊢
  simp only [r186, r187, r188, r189, r190, r191, r227, r228, r229, r230, r231, r232, p185_1, p185_4, p200_39, p200_43]
  exact h
theorem cr_Rsp.fr {I J : cr_I} (h : cr_Rsp I) (e : cr_ag rl_sp I J) : cr_Rsp J := by
  intro p hp a ha
  rw [e 226 (6 * p + a) (by unfold rl_sp; omega), e (179 + p) a (by unfold rl_sp; omega)]
  exact h p hp a ha
theorem cr_Rmk.fr {I J : cr_I} (h : cr_Rmk I) (e : cr_ag rl_mk I J) : cr_Rmk J := by
  intro m hm
  have c : ∀ k, k < 4 → J (29 + 25 * m) k = I (29 + 25 * m) k := fun k hk => e _ k (by unfold rl_mk; omega)
  have d : ∀ b, 201 ≤ b → b ≤ 204 → J b m = I b m := fun b h1 h2 => e b m (by unfold rl_mk; omega)
  have := h m hm
  unfold cr_mkok at this ⊢
  rw [c 0 (by omega), c 1 (by omega), c 2 (by omega), c 3 (by omega), d 201 (by omega) (by omega), d 202 (by omega) (by omega), d 203 (by omega) (by omega), d 204 (by omega) (by omega)]
  exact this
theorem cr_tR.fr {b m : Nat} {I J : cr_I} (hm : m < 4) (h : cr_tR b m I) (e1 : ∀ x k, b ≤ x → x < b + 24 → J x k = I x k) (e2 : cr_ag rl_tm I J) : cr_tR b m J := by
  obtain ⟨h1, h2, h3⟩ := h
  have z : ∀ x k, b ≤ x → x < b + 24 → J x k = I x k := e1
  have a0 : J b 0 = I b 0 := z b 0 (by omega) (by omega)
  unfold cr_tR
  rw [a0, e2 206 m (by unfold rl_tm; omega)]
  refine ⟨h1, h2, fun l hl => ?_⟩
  have hl6 : l < 6 := by
    have : (I b 0).toNatClampNeg = (I b 0).toInt.toNat := rfl
    omega
  obtain ⟨q1, q2, q3, q4⟩ := h3 l hl
  have t2 : J (b + 2) l = I (b + 2) l := z _ _ (by omega) (by omega)
  unfold cr_lR cr_tlok at *
  rw [t2, e2 207 (6 * m + l) (by unfold rl_tm; omega), e2 208 (6 * m + l) (by unfold rl_tm; omega), e2 209 (6 * m + l) (by unfold rl_tm; omega), z (b + 1) l (by omega) (by omega)]
  have hc : ∀ k, k < (I (b + 2) l).toNatClampNeg → k < 4 := fun k hk => by
    have : (I (b + 2) l).toNatClampNeg = (I (b + 2) l).toInt.toNat := rfl
    omega
  refine ⟨q1, q2, ⟨q3.1, fun k hk => ?_⟩, fun k hk => ?_⟩
  · rw [z (b + 4 + l) k (by omega) (by omega)]
    exact q3.2 k hk
  · have := hc k hk
    rw [e2 210 _ (by unfold rl_tm; omega), e2 211 _ (by unfold rl_tm; omega), e2 212 _ (by unfold rl_tm; omega), z (b + 4 + l) k (by omega) (by omega), z (b + 18 + l) k (by omega) (by omega), z (b + 11 + l) k (by omega) (by omega)]
    exact q4 k hk
theorem cr_Rtb.fr {τ : Nat → Nat} {I J : cr_I} (hτ : cr_tau τ) (h : cr_Rtb τ I) (e : cr_ag rl_tb I J) : cr_Rtb τ J := by
  intro m hm
  have ht := hτ.1 m (by omega)
  unfold cr_isT at ht
  exact (h m hm).fr hm (fun x k h1 h2 => e x k (by unfold rl_tb; omega)) (fun x k hx => e x k (by unfold rl_tb; exact Or.inr (Or.inr (Or.inr (Or.inr (Or.inr hx))))))
theorem cr_Rel.fr {τ : Nat → Nat} {I J : cr_I} (h : cr_Rel τ I) (e : cr_ag cr_rl I J) : cr_Rel τ J := by
  obtain ⟨h0, htx, hmk, htb, hro, hse, hpu, hlo, hhi, hst, hjo, hsp, hck⟩ := h
  refine ⟨h0, htx.fr fun b k q => e b k ?_, hmk.fr fun b k q => e b k ?_, htb.fr h0 fun b k q => e b k ?_, hro.fr fun b k q => e b k ?_, hse.fr fun b k q => e b k ?_, hpu.fr fun b k q => e b k ?_, hlo.fr fun b k q => e b k ?_, hhi.fr fun b k q => e b k ?_, hst.fr fun b k q => e b k ?_, hjo.fr fun b k q => e b k ?_, hsp.fr fun b k q => e b k ?_, hck.fr fun b k q => e b k ?_⟩ <;> (unfold cr_rl; simp only [q, true_or, or_true])
/-! what the calls ask of the start -/
theorem cr_Rel.rok {τ : Nat → Nat} {I : cr_I} (h : cr_Rel τ I) : cr_rok τ I := by
  obtain ⟨h0, htx, hmk, htb, hro, hse, hpu, hlo, hhi, hst, hjo, hsp, hck⟩ := h
  refine ⟨hro.1, hst.1, ⟨hpu.1, hhi.1⟩, hro.2.2.2, fun m hm => ⟨(hmk m hm).1, ?_⟩, ⟨hse.2.2.1, hst.2.1⟩, fun k _ => hhi.2.2.2.2.2.2 k⟩
  obtain ⟨q1, q2, q3⟩ := htb m hm
  exact ⟨q1, fun l hl => (q3 l hl).2.2.1⟩
theorem cr_Rel.mok {τ : Nat → Nat} {I : cr_I} (h : cr_Rel τ I) : cr_mok I := by
  obtain ⟨h0, htx, hmk, htb, hro, hse, hpu, hlo, hhi, hst, hjo, hsp, hck⟩ := h
  obtain ⟨⟨n1, n2⟩, rn, rm, r6⟩ := hro
  obtain ⟨p1, pe, -, -, -⟩ := hpu
  obtain ⟨i1, ie, -, -, -, i6, i7⟩ := hhi
  obtain ⟨⟨s1, s2, s3⟩, s4, t1, t2, t3, t4⟩ := hst
  unfold cr_mok cr_mnok cr_msok
  rw [rn, rm, pe, ie, i6, t1, t2, t3]
  refine ⟨⟨n1, n2⟩, ⟨s1, s2, s3⟩, ⟨p1, i1⟩, r6, fun m hm => ⟨?_, ?_⟩, fun k _ => i7 k⟩
  · obtain ⟨⟨-, -, -, q⟩, -, -, -, e⟩ := hmk m hm
    rw [e]
    exact q
  · obtain ⟨q1, q2, q3⟩ := htb m hm
    unfold cr_mtok
    rw [q2]
    refine ⟨q1, fun l hl => ?_⟩
    obtain ⟨-, u2, u3, u4⟩ := q3 l hl
    rw [u2]
    exact ⟨u3.1, fun k hk => by rw [(u4 k hk).1]; exact u3.2 k hk⟩
theorem cr_bnd_m {br pu v : Int32} (hb : 1 ≤ br.toInt ∧ br.toInt ≤ 9) (hp : 1 ≤ pu.toInt ∧ pu.toInt ≤ 5) (hv : -99 ≤ v.toInt ∧ v.toInt ≤ 99) : cr_bnd br pu v = if 0 ≤ v then (if pu ≤ v then pu else v) else -(if br ≤ -v then br else -v) := by
  have n1 : (-br).toInt = -br.toInt := cr_neg (by omega)
  have n2 : (-v).toInt = -v.toInt := cr_neg (by omega)
  have n3 : (-(-v)).toInt = v.toInt := by rw [cr_neg (by omega), n2]; omega
  have z : (0 : Int32).toInt = 0 := rfl
  unfold cr_bnd
  rw [cr_eq]
  simp only [cr_le, cr_lt, z, n1, n2]
  by_cases c1 : v.toInt < pu.toInt
  · simp only [if_pos c1]
    by_cases c2 : -br.toInt < v.toInt
    · rw [if_pos c2]
      by_cases c3 : 0 ≤ v.toInt
      · rw [if_pos c3, if_neg (by omega)]
      · rw [if_neg c3, if_neg (by omega), n3]
    · rw [if_neg c2]
      rw [if_neg (show ¬ 0 ≤ v.toInt by omega), if_pos (by omega)]
  · simp only [if_neg c1]
    rw [if_pos (show -br.toInt < pu.toInt by omega), if_pos (show 0 ≤ v.toInt by omega), if_pos (by omega)]
theorem cr_bnd_wk {br pu k n : Int32} (hb : 1 ≤ br.toInt ∧ br.toInt ≤ 9) (hp : 1 ≤ pu.toInt ∧ pu.toInt ≤ 5) (hk : k = 0 ∨ k = 1 ∨ k = 2) (hn : 0 ≤ n.toInt ∧ n.toInt ≤ 99) : cr_bnd br pu (cr_wk k n) = if k = 0 then -(if br ≤ n then br else n) else if k = 1 then (if pu ≤ n then pu else n) else 0 := by
  have z : (0 : Int32).toInt = 0 := rfl
  have nn : (-n).toInt = -n.toInt := cr_neg (by omega)
  rcases hk with rfl | rfl | rfl
  · have e : cr_wk 0 n = -n := rfl
    have e2 : -(-n) = n := by rw [cr_eq, cr_neg (by omega), nn]; omega
    rw [e, cr_bnd_m hb hp (by omega), if_pos rfl]
    by_cases c : n = 0
    · subst c
      rw [if_pos (by decide), if_neg (by rw [cr_le]; show ¬ pu.toInt ≤ 0; omega), if_neg (by rw [cr_le]; show ¬ br.toInt ≤ 0; omega)]
    · have c' : ¬ n.toInt = 0 := fun q => c (cr_eq.mpr q)
      rw [if_neg (by rw [cr_le, nn, z]; omega), e2]
  · have e : cr_wk 1 n = n := rfl
    rw [e, cr_bnd_m hb hp (by omega), if_pos (by rw [cr_le, z]; omega), if_neg (show ¬ (1 : Int32) = 0 by decide), if_pos (show (1 : Int32) = 1 from rfl)]
  · have e : cr_wk 2 n = 0 := rfl
    rw [e, cr_bnd_m hb hp (by rw [z]; omega), if_pos (by decide), if_neg (by rw [cr_le]; show ¬ pu.toInt ≤ 0; omega), if_neg (by decide), if_neg (by decide)]
theorem cr_holdS_d {vals rd rd' bd bd' ab ab' : Nat → Int32} : ∀ n, (∀ k, k < n → rd k = rd' k ∧ bd k = bd' k ∧ ab k = ab' k) → cr_holdS vals rd bd ab n = cr_holdS vals rd' bd' ab' n
  | 0, _ => by simp only [cr_holdS]
  | n + 1, h => by
    have ih := cr_holdS_d (vals := vals) n (fun k hk => h k (by omega))
    obtain ⟨e1, e2, e3⟩ := h n (by omega)
    rw [cr_holdS, cr_holdS, ih, e1, e2, e3]
theorem cr_pushS_b {tk bw : Nat → Int32} {t : Int32} (h : ∀ k, -9 ≤ (bw k).toInt ∧ (bw k).toInt ≤ 5) : ∀ n, -9 ≤ (cr_pushS tk bw t n).toInt ∧ (cr_pushS tk bw t n).toInt ≤ 5
  | 0 => by
    show -9 ≤ (0 : Int32).toInt ∧ (0 : Int32).toInt ≤ 5
    decide
  | n + 1 => by
    rw [cr_pushS]
    split
    · exact h n
    · exact cr_pushS_b h n
/-- a run hangs on nothing else -/
theorem cr_Rel.par {τ : Nat → Nat} {I : cr_I} (h : cr_Rel τ I) : cr_cpar τ I = cr_mpar I := by
  obtain ⟨h0, htx, hmk, htb, hro, hse, hpu, hlo, hhi, hst, hjo, hsp, hck⟩ := h
  obtain ⟨⟨n1, n2⟩, rn, rm, r6⟩ := hro
  obtain ⟨p1, pe, pt, pw, pb⟩ := hpu
  obtain ⟨i1, ie, i3, i4, i5, i6, i7⟩ := hhi
  obtain ⟨s0, s4, t1, t2, t3, t4⟩ := hst
  have en : cr_mn0 I = cr_cn0 I := by unfold cr_mn0 cr_cn0; rw [rn]
  have ek : ∀ i, cr_mmk I i = cr_cmk I i := fun i => by unfold cr_mmk cr_cmk; rw [rm]
  have ln : cr_cn0 I ≤ 6 := by
    have : cr_cn0 I = (I 27 1).toInt.toNat := rfl
    omega
  have lk : ∀ i, i < 6 → cr_cmk I i < 4 := fun i hi => by
    have := r6 i hi
    have e : cr_cmk I i = (I 129 i).toInt.toNat := rfl
    omega
  unfold cr_cpar cr_mpar
  rw [en, hse.1, i3, i4, i5, i6, ie, t1, t2, t3, t4]
  refine Prod.ext rfl (Prod.ext rfl (Prod.ext (funext fun t => ?_) (Prod.ext (funext fun i => funext fun v => ?_) (Prod.ext (funext fun i => ?_) (Prod.ext (funext fun i => funext fun q => ?_) rfl)))))
  · show cr_bnd _ _ _ = cr_mpw I (nI t)
    obtain ⟨q0, -, q2, q3, -⟩ := hmk _ (lk 0 (by omega))
    unfold cr_mpw
    rw [ek 0, pt, pw, pe, q2, q3]
    have b := cr_pushS_b (tk := I 131) (t := nI t) pb (I 27 5).toNatClampNeg
    exact cr_bnd_m q0.2.1 q0.2.2.1 (by omega)
  · show (if _ then _ else _) = if _ then _ else _
    by_cases hi : i < cr_cn0 I
    · rw [if_pos hi, if_pos hi, ek i]
      have hm := lk i (by omega)
      generalize cr_cmk I i = m at hm
      obtain ⟨q0, -, q2, q3, -⟩ := hmk m hm
      obtain ⟨u1, u2, u3⟩ := htb m hm
      unfold cr_wbS cr_mwb
      rw [u2]
      have ef : cr_firstS (fun l => cr_mln I (6 * m + l) v) 0 (I (τ m) 0).toNatClampNeg = cr_firstS (fun l => cr_holdS v (I (τ m + 4 + l)) (I (τ m + 11 + l)) (I (τ m + 18 + l)) (I (τ m + 2) l).toNatClampNeg) 0 (I (τ m) 0).toNatClampNeg := by
        refine cr_firstS_c _ _ fun l _ hl => ?_
        obtain ⟨-, w2, -, w4⟩ := u3 l (by omega)
        show cr_holdS _ _ _ _ _ = _
        rw [w2]
        exact cr_holdS_d _ fun k hk => ⟨(w4 k hk).1, (w4 k hk).2.2, (w4 k hk).2.1⟩
      rw [ef]
      cases hc : cr_firstS (fun l => cr_holdS v (I (τ m + 4 + l)) (I (τ m + 11 + l)) (I (τ m + 18 + l)) (I (τ m + 2) l).toNatClampNeg) 0 (I (τ m) 0).toNatClampNeg with
      | none =>
        show cr_bnd _ _ 0 = 0
        rw [cr_bnd_m q0.2.1 q0.2.2.1 (by decide), if_pos (by decide), if_neg (by rw [cr_le]; show ¬ (I (29 + 25 * m) 2).toInt ≤ 0; have := q0.2.2.1; omega)]
      | some l =>
        have hl := cr_firstS_s _ _ hc
        obtain ⟨w1, -, -, -⟩ := u3 l (by omega)
        show cr_bnd _ _ (I (τ m + 1) l) = cr_mval I m (6 * m + l)
        unfold cr_mval
        rw [← w1.1, q2, q3]
        exact cr_bnd_wk q0.2.1 q0.2.2.1 w1.2.1 w1.2.2
    · rw [if_neg hi, if_neg hi]
  · show (if _ then _ else _) = if _ then _ else _
    by_cases hi : i < cr_cn0 I
    · rw [if_pos hi, if_pos hi, ek i, (hmk _ (lk i (by omega))).2.2.2.2]
    · rw [if_neg hi, if_neg hi]
  · show (if _ then _ else _) = if _ then _ else _
    by_cases hi : i < cr_cn0 I
    · rw [if_pos hi, if_pos hi, ek i, (hmk _ (lk i (by omega))).2.1]
    · rw [if_neg hi, if_neg hi]
/-- a call of the class, then the same of the reference: one answer, and what held holds -/
def cr_S (T8 T9 : cr_T) (as : List Value) : Prop := ∀ (τ : Nat → Nat) (I : cr_I) (K : cr_K), cr_Rel τ I → (∀ (r : Int32) (I1 : cr_I) (τ1 : Nat → Nat), (∀ K2 : cr_K, (∀ I2, cr_Rel τ1 I2 → K2 (some (.int r)) I2 (cr_rf τ1)) → T9 (.ref 200 :: as) I1 (cr_rf τ1) K2) → K (some (.int r)) I1 (cr_rf τ1)) → T8 (.ref 0 :: as) I (cr_rf τ) K
