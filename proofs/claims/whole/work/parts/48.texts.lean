/-! TEXT, ROW, TABLE -/
theorem S_write {x1 : Int64} {x3 : Int32} : cr_S T_yX8_write T_yX9_write [.long x1, .int x3] := by
  intro τ I K h hk
  obtain ⟨h0, htx, hmk, htb, hro, hse, hpu, hlo, hhi, hst, hjo, hsp, hck⟩ := id h
  have eL : cr_mL I = cr_tL I := by unfold cr_mL cr_tL; rw [htx.2.1]
  refine ⟨τ, x1, x3, rfl, h0, rfl, htx.1, fun r J q => ?_⟩
  refine hk r J τ fun K2 k2 => ?_
  rcases q with ⟨c, rfl, rfl⟩ | ⟨c, ⟨c2, rfl, rfl⟩ | ⟨c2, rfl, e1, e2, f⟩⟩
  · refine ⟨τ, x1, x3, rfl, h0, rfl, ?_, fun r2 J2 q2 => ?_⟩
    · unfold p_yX9_write; rw [htx.2.1]; exact htx.1
    · rcases q2 with ⟨-, rfl, rfl⟩ | ⟨d, -⟩
      · exact k2 _ h
      · exact absurd d c
  · refine ⟨τ, x1, x3, rfl, h0, rfl, ?_, fun r2 J2 q2 => ?_⟩
    · unfold p_yX9_write; rw [htx.2.1]; exact htx.1
    · rcases q2 with ⟨d, -⟩ | ⟨-, ⟨-, rfl, rfl⟩ | ⟨d, -⟩⟩
      · exact absurd c d
      · exact k2 _ h
      · exfalso; omega
  · have j5 : J 200 5 = I 1 1 := (f 200 5 (by unfold cr_PW; omega)).trans htx.2.1
    have jL : cr_mL J = cr_tL I := by unfold cr_mL cr_tL; rw [j5]
    have j205 : J 205 = I 2 := (funext fun k => f 205 k (by unfold cr_PW; omega)).trans htx.2.2
    refine ⟨τ, x1, x3, rfl, h0, rfl, ?_, fun r2 J2 q2 => ?_⟩
    · unfold p_yX9_write; rw [j5]; exact htx.1
    · unfold q_yX9_write at q2
      rw [jL, j205] at q2
      rcases q2 with ⟨d, -⟩ | ⟨-, ⟨d, -⟩ | ⟨-, rfl, g1, g2, f2⟩⟩
      · exact absurd c d
      · exfalso; omega
      · refine k2 _ ?_
        have n1 : J2 1 1 = nI (cr_tL I + x3.toNatClampNeg) := (f2 1 1 (by unfold cr_PmW; omega)).trans e1
        have n2 : J2 2 = J 2 := funext fun k => f2 2 k (by unfold cr_PmW; omega)
        refine ⟨h0, ?_, (hmk.fr fun b k hb => by unfold rl_mk at hb; exact (f2 b k (by unfold cr_PmW; omega)).trans (f b k (by unfold cr_PW; omega))), (htb.fr h0 fun b k hb => by unfold rl_tb rl_tm at hb; exact (f2 b k (by unfold cr_PmW; omega)).trans (f b k (by unfold cr_PW; omega))), (hro.fr fun b k hb => by unfold rl_ro at hb; exact (f2 b k (by unfold cr_PmW; omega)).trans (f b k (by unfold cr_PW; omega))), (hse.fr fun b k hb => by unfold rl_se at hb; exact (f2 b k (by unfold cr_PmW; omega)).trans (f b k (by unfold cr_PW; omega))), (hpu.fr fun b k hb => by unfold rl_pu at hb; exact (f2 b k (by unfold cr_PmW; omega)).trans (f b k (by unfold cr_PW; omega))), (hlo.fr fun b k hb => by unfold rl_lo at hb; exact (f2 b k (by unfold cr_PmW; omega)).trans (f b k (by unfold cr_PW; omega))), (hhi.fr fun b k hb => by unfold rl_hi at hb; exact (f2 b k (by unfold cr_PmW; omega)).trans (f b k (by unfold cr_PW; omega))), (hst.fr fun b k hb => by unfold rl_st at hb; exact (f2 b k (by unfold cr_PmW; omega)).trans (f b k (by unfold cr_PW; omega))), (hjo.fr fun b k hb => by unfold rl_jo at hb; exact (f2 b k (by unfold cr_PmW; omega)).trans (f b k (by unfold cr_PW; omega))), (hsp.fr fun b k hb => by unfold rl_sp at hb; exact (f2 b k (by unfold cr_PmW; omega)).trans (f b k (by unfold cr_PW; omega))), (hck.fr fun b k hb => by unfold rl_ck at hb; exact (f2 b k (by unfold cr_PmW; omega)).trans (f b k (by unfold cr_PW; omega)))⟩
        unfold cr_Rtx
        rw [n1, g1, g2, n2, e2, cr_nt (by omega)]
        exact ⟨by omega, rfl, rfl⟩
theorem cr_mkS_b {x : Int32} {i : Nat} : 0 ≤ (cr_mkS x i).toInt ∧ (cr_mkS x i).toInt < 4 := by
  unfold cr_mkS
  obtain ⟨j, hj, e⟩ := pk_andE (x >>> (((2 : Int32) * nI i) &&& 31)) (m := 3) 2 (by decide)
  rcases (show j = 0 ∨ j = 1 ∨ j = 2 ∨ j = 3 by omega) with rfl | rfl | rfl | rfl <;> (rw [show (3 : Int32) = nI 3 from rfl] at *; first | (rw [e]; decide) | (simp only [e]; decide))
theorem S_row {x1 x2 : Int32} : cr_S T_yX8_row T_yX9_row [.int x1, .int x2] := by
  intro τ I K h hk
  obtain ⟨h0, htx, hmk, htb, hro, hse, hpu, hlo, hhi, hst, hjo, hsp, hck⟩ := id h
  refine ⟨τ, x1, x2, rfl, h0, rfl, trivial, fun r J q => ?_⟩
  refine hk r J τ fun K2 k2 => ⟨τ, x1, x2, rfl, h0, rfl, trivial, fun r2 J2 q2 => ?_⟩
  rcases q with ⟨c, rfl, rfl⟩ | ⟨c, rfl, e1, e2, f⟩
  · rcases q2 with ⟨-, rfl, rfl⟩ | ⟨d, -⟩
    · exact k2 _ h
    · exact absurd d c
  · rcases q2 with ⟨d, -⟩ | ⟨-, rfl, g1, g2, f2⟩
    · exact absurd c d
    · refine k2 _ ?_
      have n1 : J2 27 1 = x2 := (f2 27 1 (by unfold cr_PmR; omega)).trans e1
      have n2 : ∀ i, J2 129 i = J 129 i := fun i => f2 129 i (by unfold cr_PmR; omega)
      refine ⟨h0, (htx.fr fun b k hb => by unfold rl_tx at hb; exact (f2 b k (by unfold cr_PmR; omega)).trans (f b k (by unfold cr_PR; omega))), (hmk.fr fun b k hb => by unfold rl_mk at hb; exact (f2 b k (by unfold cr_PmR; omega)).trans (f b k (by unfold cr_PR; omega))), (htb.fr h0 fun b k hb => by unfold rl_tb rl_tm at hb; exact (f2 b k (by unfold cr_PmR; omega)).trans (f b k (by unfold cr_PR; omega))), ?_, (hse.fr fun b k hb => by unfold rl_se at hb; exact (f2 b k (by unfold cr_PmR; omega)).trans (f b k (by unfold cr_PR; omega))), (hpu.fr fun b k hb => by unfold rl_pu at hb; exact (f2 b k (by unfold cr_PmR; omega)).trans (f b k (by unfold cr_PR; omega))), (hlo.fr fun b k hb => by unfold rl_lo at hb; exact (f2 b k (by unfold cr_PmR; omega)).trans (f b k (by unfold cr_PR; omega))), (hhi.fr fun b k hb => by unfold rl_hi at hb; exact (f2 b k (by unfold cr_PmR; omega)).trans (f b k (by unfold cr_PR; omega))), (hst.fr fun b k hb => by unfold rl_st at hb; exact (f2 b k (by unfold cr_PmR; omega)).trans (f b k (by unfold cr_PR; omega))), (hjo.fr fun b k hb => by unfold rl_jo at hb; exact (f2 b k (by unfold cr_PmR; omega)).trans (f b k (by unfold cr_PR; omega))), (hsp.fr fun b k hb => by unfold rl_sp at hb; exact (f2 b k (by unfold cr_PmR; omega)).trans (f b k (by unfold cr_PR; omega))), (hck.fr fun b k hb => by unfold rl_ck at hb; exact (f2 b k (by unfold cr_PmR; omega)).trans (f b k (by unfold cr_PR; omega)))⟩
      unfold cr_Rro cr_nok
      rw [n1, g1]
      refine ⟨c, rfl, funext fun i => ?_, fun i hi => ?_⟩
      · rw [g2, n2, e2]
        split
        · rfl
        · rw [f 213 i (by unfold cr_PR; omega)]
          exact congrFun hro.2.2.1 i
      · rw [n2, e2]
        split
        · exact cr_mkS_b
        · exact hro.2.2.2 i hi
/-- the five tables lie apart -/
theorem cr_tau.apart {τ : Nat → Nat} (h : cr_tau τ) {i j : Nat} (hi : i < 5) (hj : j < 5) (hn : i ≠ j) {x : Nat} (h1 : τ i ≤ x) (h2 : x < τ i + 24) : ¬ (τ j ≤ x ∧ x < τ j + 24) := by
  have a := h.1 i hi
  have b := h.1 j hj
  have c : τ i ≠ τ j := fun e => hn (h.2 i j hi hj e)
  unfold cr_isT at a b
  omega
theorem cr_tau.rng {τ : Nat → Nat} (h : cr_tau τ) {i : Nat} (hi : i < 5) {x : Nat} (h1 : τ i ≤ x) (h2 : x < τ i + 24) : (3 ≤ x ∧ x ≤ 26) ∨ (30 ≤ x ∧ x ≤ 53) ∨ (55 ≤ x ∧ x ≤ 78) ∨ (80 ≤ x ∧ x ≤ 103) ∨ (105 ≤ x ∧ x ≤ 128) := by
  have a := h.1 i hi
  unfold cr_isT at a
  omega
/-- the text is read: nothing that counts has changed -/
theorem cr_Rel.pf {τ : Nat → Nat} {I J : cr_I} (h : cr_Rel τ I) (e : ∀ b k, ¬ (b = 1 ∧ (k = 3 ∨ k = 4)) → ¬ (τ 4 ≤ b ∧ b < τ 4 + 24) → ¬ cr_Pf b k → J b k = I b k) : cr_Rel τ J := by
  obtain ⟨h0, htx, hmk, htb, hro, hse, hpu, hlo, hhi, hst, hjo, hsp, hck⟩ := id h
  have t4 := h0.1 4 (by omega)
  unfold cr_isT at t4
  have htb' : cr_Rtb τ J := fun m hm => (htb m hm).fr hm (fun x k h1 h2 => by
      have hr := h0.rng (show m < 5 by omega) h1 h2
      exact e x k (by omega) (h0.apart (by omega) (by omega) (by omega) h1 h2) (by unfold cr_Pf; omega))
    (fun b k hb => by unfold rl_tm at hb; exact e b k (by omega) (by omega) (by unfold cr_Pf; omega))
  refine ⟨h0, (htx.fr fun b k hb => by unfold rl_tx at hb; exact e b k (by omega) (by omega) (by unfold cr_Pf; omega)), (hmk.fr fun b k hb => by unfold rl_mk at hb; exact e b k (by omega) (by omega) (by unfold cr_Pf; omega)), ?_, (hro.fr fun b k hb => by unfold rl_ro at hb; exact e b k (by omega) (by omega) (by unfold cr_Pf; omega)), (hse.fr fun b k hb => by unfold rl_se at hb; exact e b k (by omega) (by omega) (by unfold cr_Pf; omega)), (hpu.fr fun b k hb => by unfold rl_pu at hb; exact e b k (by omega) (by omega) (by unfold cr_Pf; omega)), (hlo.fr fun b k hb => by unfold rl_lo at hb; exact e b k (by omega) (by omega) (by unfold cr_Pf; omega)), (hhi.fr fun b k hb => by unfold rl_hi at hb; exact e b k (by omega) (by omega) (by unfold cr_Pf; omega)), (hst.fr fun b k hb => by unfold rl_st at hb; exact e b k (by omega) (by omega) (by unfold cr_Pf; omega)), (hjo.fr fun b k hb => by unfold rl_jo at hb; exact e b k (by omega) (by omega) (by unfold cr_Pf; omega)), (hsp.fr fun b k hb => by unfold rl_sp at hb; exact e b k (by omega) (by omega) (by unfold cr_Pf; omega)), (hck.fr fun b k hb => by unfold rl_ck at hb; exact e b k (by omega) (by omega) (by unfold cr_Pf; omega))⟩
  exact htb'
theorem S_fault : cr_S T_yX8_fault T_yX9_fault [] := by
  intro τ I K h hk
  obtain ⟨h0, htx, hmk, htb, hro, hse, hpu, hlo, hhi, hst, hjo, hsp, hck⟩ := id h
  refine ⟨τ, fun r J => K (some (.int r)) J (cr_rf τ), rfl, h0, rfl, ⟨htx.1, fun r J q => ?_⟩, fun _ _ q => q⟩
  obtain ⟨f, q⟩ := q
  have t4 := h0.1 4 (by omega)
  unfold cr_isT at t4
  have hJ : cr_Rel τ J := h.pf fun b k h1 h2 h3 => f b k h1 h2
  refine hk r J τ fun K2 k2 => ?_
  have j5 : J 200 5 = I 1 1 := (f 200 5 (by omega) (by omega)).trans htx.2.1
  have jL : cr_mL J = cr_tL I := by unfold cr_mL cr_tL; rw [j5]
  have j205 : J 205 = I 2 := (funext fun k => f 205 k (by omega) (by omega)).trans htx.2.2
  refine ⟨τ, rfl, h0, rfl, ?_, fun r2 J2 q2 => ?_⟩
  · unfold p_yX9_fault; rw [j5]; exact htx.1
  · obtain ⟨f2, q2⟩ := q2
    rw [jL, j205] at q2
    have hJ2 : cr_Rel τ J2 := hJ.pf fun b k h1 h2 h3 => f2 b k h3
    have er : r2 = r := by
      rcases q with ⟨p, e1, -, e2⟩ | ⟨e1, e2, -⟩
      · rcases q2 with ⟨p', g1, -, g2⟩ | ⟨g1, -⟩
        · rw [e1] at g1
          cases g1
          rw [e2, g2]
        · rw [e1] at g1
          cases g1
      · rcases q2 with ⟨p', g1, -⟩ | ⟨g1, g2, -⟩
        · rw [e1] at g1
          cases g1
        · rw [e2, g2]
    rw [er]
    exact k2 _ hJ2
/-- a make's table, when only another's has changed -/
theorem cr_tR.fr2 {b m : Nat} {I J : cr_I} (hm : m < 4) (h : cr_tR b m I) (e1 : ∀ x k, b ≤ x → x < b + 24 → J x k = I x k) (e6 : J 206 m = I 206 m) (e7 : ∀ x l, x = 207 ∨ x = 208 ∨ x = 209 → l < 6 → J x (6 * m + l) = I x (6 * m + l)) (e8 : ∀ x l, x = 210 ∨ x = 211 ∨ x = 212 → l < 24 → J x (24 * m + l) = I x (24 * m + l)) : cr_tR b m J := by
  obtain ⟨h1, h2, h3⟩ := h
  have a0 : J b 0 = I b 0 := e1 b 0 (by omega) (by omega)
  unfold cr_tR
  rw [a0, e6]
  refine ⟨h1, h2, fun l hl => ?_⟩
  have hl6 : l < 6 := by
    have : (I b 0).toNatClampNeg = (I b 0).toInt.toNat := rfl
    omega
  obtain ⟨q1, q2, q3, q4⟩ := h3 l hl
  have t2 : J (b + 2) l = I (b + 2) l := e1 _ _ (by omega) (by omega)
  unfold cr_lR cr_tlok at *
  rw [t2, e7 207 l (by omega) hl6, e7 208 l (by omega) hl6, e7 209 l (by omega) hl6, e1 (b + 1) l (by omega) (by omega)]
  have hc : ∀ k, k < (I (b + 2) l).toNatClampNeg → k < 4 := fun k hk => by
    have : (I (b + 2) l).toNatClampNeg = (I (b + 2) l).toInt.toNat := rfl
    omega
  refine ⟨q1, q2, ⟨q3.1, fun k hk => ?_⟩, fun k hk => ?_⟩
  · rw [e1 (b + 4 + l) k (by omega) (by omega)]
    exact q3.2 k hk
  · have := hc k hk
    have ei : 4 * (6 * m + l) + k = 24 * m + (4 * l + k) := by omega
    have q := q4 k hk
    rw [ei] at q ⊢
    rw [e8 210 _ (by omega) (by omega), e8 211 _ (by omega) (by omega), e8 212 _ (by omega) (by omega), e1 (b + 4 + l) k (by omega) (by omega), e1 (b + 18 + l) k (by omega) (by omega), e1 (b + 11 + l) k (by omega) (by omega)]
    exact q
theorem cr_rdS_b {B : Nat → Int32} {t : cr_tk} (h : ¬ cr_rdS B t = -1) : 0 ≤ (cr_rdS B t).toInt ∧ (cr_rdS B t).toInt < 6 := by
  unfold cr_rdS at h ⊢
  split
  · decide
  split
  · decide
  split
  · decide
  split
  · decide
  split
  · decide
  split
  · decide
  · rename_i a1 a2 a3 a4 a5 a6
    rw [if_neg a1, if_neg a2, if_neg a3, if_neg a4, if_neg a5, if_neg a6] at h
    exact absurd rfl h
theorem cr_tsS_b {B : Nat → Int32} {L : Nat} {t : cr_tk} : 0 ≤ ((cr_tsS B L t).2.2.1).toInt ∧ ((cr_tsS B L t).2.2.1).toInt < 6 := by
  have z6 : 0 ≤ (0 : Int32).toInt ∧ (0 : Int32).toInt < 6 := by decide
  unfold cr_tsS
  split
  · exact z6
  · rename_i c
    have := cr_rdS_b c
    split
    · split
      · exact this
      · exact z6
    · split
      · split
        · exact this
        · exact z6
      · exact z6
/-- a line that both have read of one text -/
theorem cr_lR.of {b m l L : Nat} {J : cr_I} {B : Nat → Int32} {u : cr_tk} (hT : cr_lnT b l J B L u) (hM : cr_lnM (6 * m + l) J B L u) : cr_lR b m J l := by
  obtain ⟨t1, t2, t3⟩ := hT
  obtain ⟨⟨m1, m2, m3⟩, m4, m5⟩ := hM
  have n4 := cr_lnS_n (B := B) (L := L) (t := u)
  have hn : (J (b + 2) l).toNatClampNeg = (cr_lnS B L u).2.2.2 := by rw [t2, cr_nc (by omega)]
  have hi : (J (b + 2) l).toInt = (cr_lnS B L u).2.2.2 := by rw [t2, cr_nt (by omega)]
  refine ⟨⟨m1.trans t1.symm, m2, m3⟩, m4.trans t2.symm, ⟨by omega, fun k hk => ?_⟩, fun k hk => ?_⟩
  · rw [hn] at hk
    rw [(t3 k hk).1]
    exact cr_tsS_b
  · rw [hn] at hk
    obtain ⟨a1, a2, a3⟩ := t3 k hk
    obtain ⟨b1, b2, b3⟩ := m5 k hk
    exact ⟨b1.trans a1.symm, b2.trans a2.symm, b3.trans a3.symm⟩
theorem S_table {x1 : Int32} : cr_S T_yX8_table T_yX9_table [.int x1] := by
  intro τ I K h hk
  obtain ⟨h0, htx, hmk, htb, hro, hse, hpu, hlo, hhi, hst, hjo, hsp, hck⟩ := id h
  refine ⟨τ, x1, rfl, h0, rfl, htx.1, fun r J τ' q => ?_⟩
  have t4 := h0.1 4 (by omega)
  unfold cr_isT at t4
  rcases q with ⟨c, rfl, rfl, rfl⟩ | ⟨c, ⟨c2, rfl, f, rfl⟩ | ⟨c2, rfl, c3, f, e1, e2, e3, rfl⟩⟩
  · refine hk _ J τ' fun K2 k2 => ⟨τ', x1, rfl, h0, rfl, ?_, fun r2 J2 q2 => ?_⟩
    · unfold p_yX9_table; rw [htx.2.1]; exact htx.1
    · rcases q2 with ⟨-, rfl, rfl⟩ | ⟨d, -⟩
      · exact k2 _ h
      · exact absurd d c
  · have hJ : cr_Rel τ' J := h.pf fun b k h1 h2 h3 => f b k h1 h2
    have j5 : J 200 5 = I 1 1 := (f 200 5 (by omega) (by omega)).trans htx.2.1
    have jL : cr_mL J = cr_tL I := by unfold cr_mL cr_tL; rw [j5]
    have j205 : J 205 = I 2 := (funext fun k => f 205 k (by omega) (by omega)).trans htx.2.2
    refine hk _ J τ' fun K2 k2 => ⟨τ', x1, rfl, h0, rfl, ?_, fun r2 J2 q2 => ?_⟩
    · unfold p_yX9_table; rw [j5]; exact htx.1
    · unfold q_yX9_table at q2
      rw [jL, j205] at q2
      rcases q2 with ⟨d, -⟩ | ⟨-, ⟨-, rfl, f2⟩ | ⟨d, -⟩⟩
      · exact absurd c d
      · exact k2 _ (hJ.pf fun b k h1 h2 h3 => f2 b k h3)
      · exact absurd d c2
  · have hm : x1.toNatClampNeg ≤ 3 := cr_n4 c
    have j5 : J 200 5 = I 1 1 := (f 200 5 (by omega) (by omega)).trans htx.2.1
    have jL : cr_mL J = cr_tL I := by unfold cr_mL cr_tL; rw [j5]
    have j205 : J 205 = I 2 := (funext fun k => f 205 k (by omega) (by omega)).trans htx.2.2
    have hs := cr_swp_tau h0 (show x1.toNatClampNeg < 4 by omega)
    refine hk _ J _ fun K2 k2 => ⟨_, x1, rfl, hs, rfl, ?_, fun r2 J2 q2 => ?_⟩
    · unfold p_yX9_table; rw [j5]; exact htx.1
    · unfold q_yX9_table at q2
      rw [jL, j205] at q2
      rcases q2 with ⟨d, -⟩ | ⟨-, ⟨d, -⟩ | ⟨-, rfl, -, f2, g1, g2, g3⟩⟩
      · exact absurd c d
      · exact absurd c2 d
      · refine k2 _ ?_
        generalize x1.toNatClampNeg = m at *
        have fa : ∀ b k, rl_mk b k ∨ rl_ro b k ∨ rl_se b k ∨ rl_pu b k ∨ rl_lo b k ∨ rl_hi b k ∨ rl_st b k ∨ rl_jo b k ∨ rl_sp b k ∨ rl_ck b k → J2 b k = I b k := fun b k hb => by
          unfold rl_mk rl_ro rl_se rl_pu rl_lo rl_hi rl_st rl_jo rl_sp rl_ck at hb
          exact (f2 b k (by unfold cr_Ptb cr_Pf; omega)).trans (f b k (by omega) (by omega))
        refine ⟨hs, ?_, hmk.fr fun b k hb => fa b k (by simp only [hb, true_or, or_true]), ?_, hro.fr fun b k hb => fa b k (by simp only [hb, true_or, or_true]), hse.fr fun b k hb => fa b k (by simp only [hb, true_or, or_true]), hpu.fr fun b k hb => fa b k (by simp only [hb, true_or, or_true]), hlo.fr fun b k hb => fa b k (by simp only [hb, true_or, or_true]), hhi.fr fun b k hb => fa b k (by simp only [hb, true_or, or_true]), hst.fr fun b k hb => fa b k (by simp only [hb, true_or, or_true]), hjo.fr fun b k hb => fa b k (by simp only [hb, true_or, or_true]), hsp.fr fun b k hb => fa b k (by simp only [hb, true_or, or_true]), hck.fr fun b k hb => fa b k (by simp only [hb, true_or, or_true])⟩
        · have n1 : J2 1 1 = 0 := (f2 1 1 (by unfold cr_Ptb cr_Pf; omega)).trans e1
          unfold cr_Rtx
          rw [n1, g1]
          refine ⟨by decide, rfl, funext fun k => ?_⟩
          rw [f2 205 k (by unfold cr_Ptb cr_Pf; omega), f2 2 k (by unfold cr_Ptb cr_Pf; omega), f 205 k (by omega) (by omega), f 2 k (by omega) (by omega)]
          exact congrFun htx.2.2 k
        · intro i hi
          by_cases e : i = m
          · subst e
            have et : cr_swp τ i i = τ 4 := by unfold cr_swp; rw [if_neg (by omega), if_pos rfl]
            rw [et]
            have n0 : ∀ x k, τ 4 ≤ x → x < τ 4 + 24 → J2 x k = J x k := fun x k h1 h2 => f2 x k (by unfold cr_Ptb cr_Pf; omega)
            have n1 : J2 (τ 4) 0 = nI (cr_paS (I 2) (cr_tL I) 6 0).2 := (n0 _ _ (by omega) (by omega)).trans e2
            unfold cr_tR
            rw [n1, g2, cr_nt (by omega), cr_nc (by omega)]
            refine ⟨by omega, rfl, fun l hl => cr_lR.of ((e3 l hl).eqv (n0 _ _ (by omega) (by omega)) (n0 _ _ (by omega) (by omega)) (fun k => n0 _ _ (by omega) (by omega)) (fun k => n0 _ _ (by omega) (by omega)) (fun k => n0 _ _ (by omega) (by omega))) (g3 l hl)⟩
          · have et : cr_swp τ m i = τ i := by unfold cr_swp; rw [if_neg (by omega), if_neg e]
            rw [et]
            refine (htb i hi).fr2 hi (fun x k h1 h2 => ?_) ?_ (fun x l hx hl => ?_) (fun x l hx hl => ?_)
            · have hr := h0.rng (show i < 5 by omega) h1 h2
              exact (f2 x k (by unfold cr_Ptb cr_Pf; omega)).trans (f x k (by omega) (h0.apart (by omega) (by omega) (by omega) h1 h2))
            · exact (f2 206 i (by unfold cr_Ptb cr_Pf; omega)).trans (f 206 i (by omega) (by omega))
            · exact (f2 x _ (by unfold cr_Ptb cr_Pf; omega)).trans (f x _ (by omega) (by omega))
            · exact (f2 x _ (by unfold cr_Ptb cr_Pf; omega)).trans (f x _ (by omega) (by omega))
