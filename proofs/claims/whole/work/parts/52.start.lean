/-! THE START -/
theorem cr_I0_nil {b k : Nat} (e : cr_i0T.getD b [] = []) : cr_I0 b k = 0 := by
  unfold cr_I0
  rw [e]
  rfl
theorem cr_I0_eq {b c : Nat} (e : cr_i0T.getD b [] = cr_i0T.getD c []) : cr_I0 b = cr_I0 c := by
  funext k
  unfold cr_I0
  rw [e]
theorem cr_Rel0 : cr_Rel cr_tau0 cr_I0 := by
  refine ⟨cr_tau0_ok, ?_, ?_, ?_, ?_, ?_, ?_, ?_, ?_, ?_, ?_, ?_, ?_⟩
  · exact ⟨by decide +kernel, by decide +kernel, cr_I0_eq (by decide +kernel)⟩
  · unfold cr_Rmk cr_mkok
    decide +kernel
  · intro m hm
    have z : ∀ m, m < 4 → cr_I0 (cr_tau0 m) 0 = 0 ∧ cr_I0 206 m = 0 := by decide +kernel
    obtain ⟨z1, z2⟩ := z m hm
    unfold cr_tR
    rw [z1, z2]
    exact ⟨by decide, rfl, fun l hl => absurd hl (Nat.not_lt_zero l)⟩
  · unfold cr_Rro cr_nok
    exact ⟨by decide +kernel, by decide +kernel, cr_I0_eq (by decide +kernel), by decide +kernel⟩
  · exact ⟨cr_I0_eq (by decide +kernel), by decide +kernel⟩
  · refine ⟨by decide +kernel, by decide +kernel, cr_I0_eq (by decide +kernel), cr_I0_eq (by decide +kernel), fun k => ?_⟩
    rw [cr_I0_nil (by decide +kernel)]
    decide
  · unfold cr_Rlo
    decide +kernel
  · refine ⟨by decide +kernel, by decide +kernel, cr_I0_eq (by decide +kernel), cr_I0_eq (by decide +kernel), cr_I0_eq (by decide +kernel), cr_I0_eq (by decide +kernel), fun k => ?_⟩
    rw [cr_I0_nil (by decide +kernel)]
    decide
  · unfold cr_Rst cr_sok
    decide +kernel
  · have z : cr_I0 169 0 = 0 := by decide +kernel
    have zn : cr_jn cr_I0 = 0 := by unfold cr_jn; rw [z]; rfl
    unfold cr_Rjo cr_jok cr_jw cr_hw
    rw [zn, z]
    exact ⟨⟨by decide, by decide, fun j hj => absurd hj (Nat.not_lt_zero j)⟩, fun j hj => absurd hj (Nat.not_lt_zero j), by decide +kernel, cr_I0_eq (by decide +kernel), cr_I0_eq (by decide +kernel), cr_I0_eq (by decide +kernel), cr_I0_eq (by decide +kernel), cr_I0_eq (by decide +kernel)⟩
  · unfold cr_Rsp
    decide +kernel
  · unfold cr_Rck cr_cw
    refine ⟨?_, by decide +kernel, by decide +kernel, by decide +kernel, by decide +kernel, cr_I0_eq (by decide +kernel), cr_I0_eq (by decide +kernel), cr_I0_eq (by decide +kernel), cr_I0_eq (by decide +kernel), cr_I0_eq (by decide +kernel), cr_I0_eq (by decide +kernel)⟩
    decide +kernel
theorem cr_I0_all : cr_mix (cr_mix (fun _ _ => 0) 0 200 cr_I0) 200 247 cr_I0 = cr_I0 := by
  funext b k
  unfold cr_mix
  by_cases h1 : 200 ≤ b ∧ b < 247
  · rw [if_pos h1]
  · rw [if_neg h1]
    by_cases h2 : 0 ≤ b ∧ b < 200
    · rw [if_pos h2]
    · rw [if_neg h2]
      have l : cr_i0T.length = 247 := by decide +kernel
      exact (cr_I0_nil (cr_getD_none (by omega))).symm
theorem cr_R0_all : cr_mix (cr_mix cr_R0 0 200 cr_RF) 200 247 cr_RF = cr_rf cr_tau0 := by
  rw [← cr_RF_rf]
  funext b k
  unfold cr_mix
  by_cases h1 : 200 ≤ b ∧ b < 247
  · rw [if_pos h1]
  · rw [if_neg h1]
    by_cases h2 : 0 ≤ b ∧ b < 200
    · rw [if_pos h2]
    · rw [if_neg h2]
      have l : cr_rFT.length = 247 := by decide +kernel
      have l0 : cr_r0T.length = 247 := by decide +kernel
      unfold cr_R0 cr_RF
      rw [cr_getD_none (show cr_r0T.length ≤ b by omega), cr_getD_none (show cr_rFT.length ≤ b by omega)]
/-! the law's own instructions -/
abbrev lw_rmL : Room := cr_rmC 13 478 0 247
def lw_X (L : Nat) (xs : Nat → Int32) (Γ : cr_G) : Prop := match Γ with
  | ((_, _, _, _, s, _, _, _, _, _), (_, _, _, ad, base, _)) => va_X (ad 1300) L xs s s.heap ∧ ad 1300 < s.heap.size ∧ ¬ base ≤ ad 1300
abbrev lw_Ok (nm : String) (K : cr_K) (Γ : cr_G) : Prop := cr_Ok ⟨RL, nm, ""⟩ cL_law 4 (some .boolean) lw_rmL K 0 247 Γ
theorem lw_ld {nm : String} {K : cr_K} {Γ : cr_G} {L : Nat} {xs : Nat → Int32} {pc : Nat} {ls st : List Value} {I : cr_I} {R : cr_R} {n : Nat} {v : Int32} (h : lw_Ok nm K Γ) (hX : lw_X L xs Γ) (hL : L ≤ 3072) (q : Nat) (hv : v = nI q) (hq : q < L) (d : decode cL_law pc = .ok (.iaload, 1)) (k : cr_V Γ (pc + 1) ls (.int (xs q) :: st) I R n) : cr_V Γ pc ls (.int v :: .ref 1300 :: st) I R n := by
  obtain ⟨⟨p, l, e, Rm, s, m, args, below, meth, c⟩, Q, D, g, ad, base, n0⟩ := Γ
  obtain ⟨hx, hb, hml, hown, hts, hK, hST, hlk, hrt, hA, hs0, hQ, hrm, hnm, hn0⟩ := h
  obtain ⟨x1, x2, x3⟩ := hX
  intro H locs la hP hz hS hl
  subst hv
  have kk := k H locs la hP hz hS hl
  rw [← cr_nc (show q < 100000 by omega)] at kk
  exact va_sld (A := fun q => base ≤ q) hx hb x1 x2 x3 hS (vp_in_nI hq (by omega)) d kk
theorem lw_len {nm : String} {K : cr_K} {Γ : cr_G} {L : Nat} {xs : Nat → Int32} {pc : Nat} {ls st : List Value} {I : cr_I} {R : cr_R} {n : Nat} (h : lw_Ok nm K Γ) (hX : lw_X L xs Γ) (d : decode cL_law pc = .ok (.arraylength, 1)) (k : cr_V Γ (pc + 1) ls (.int (nI L) :: st) I R n) : cr_V Γ pc ls (.ref 1300 :: st) I R n := by
  obtain ⟨⟨p, l, e, Rm, s, m, args, below, meth, c⟩, Q, D, g, ad, base, n0⟩ := Γ
  obtain ⟨hx, hb, hml, hown, hts, hK, hST, hlk, hrt, hA, hs0, hQ, hrm, hnm, hn0⟩ := h
  obtain ⟨x1, x2, x3⟩ := hX
  intro H locs la hP hz hS hl
  exact va_slen (A := fun q => base ≤ q) hx hb x1 x2 x3 hS d (k H locs la hP hz hS hl)
theorem lw_rmS {f' q' nLz : Nat} (h1 : f' + 1 ≤ 13) (h2 : 19 + nLz + q' ≤ 478) : cr_rm lw_rmL (cr_rm0 f' q') nLz 0 247 247 247 := ⟨⟨h1, by show 8 + (nLz + 11) + q' ≤ 478; omega⟩, ⟨rfl, (Nat.sub_self _).symm⟩, ⟨Nat.zero_le _, Nat.le_refl _, Nat.le_refl _⟩, rfl, rfl⟩
/-! what the Statement gives of the start -/
def lw_fl : List Cond := flatC (Jvm.Cond.and given_1 narrow_1)
def lw_six : List Nat := [67, 72, 74, 55, 99, 101, 103, 105, 107, 109, 90, 92, 65]
def lw_tm (i : Nat) : Term := .string "CartRows$Text" (lw_six.getD i 0)
theorem lw_k1 : ∀ i : Nat, i < 13 → Cond.exactly (lw_tm i) "java/lang/String" ∈ lw_fl := by decide +kernel
theorem lw_k2 : ∀ i : Nat, i < 13 → Cond.eq (.field (lw_tm i) "java/lang/String" "coder" "B") (.int 0) ∈ lw_fl := by decide +kernel
theorem lw_k3 : ∀ i : Nat, i < 13 → Cond.arrayOf (.field (lw_tm i) "java/lang/String" "value" "[B") .byte ∈ lw_fl := by decide +kernel
theorem lw_k4 : ∀ i : Nat, i < 13 → Cond.eq (.length (.field (lw_tm i) "java/lang/String" "value" "[B")) (.int (Int32.ofNat (cr_txL.getD i 0))) ∈ lw_fl := by decide +kernel
theorem lw_k5 : ∀ i : Nat, i < 13 → ∀ j : Nat, j < cr_txL.getD i 0 → Cond.eq (.elem (.field (lw_tm i) "java/lang/String" "value" "[B") (.int (Int32.ofNat j))) (.int ((cr_txB.getD i []).getD j 0)) ∈ lw_fl := by decide +kernel
def lw_pos : List (List Nat) := [[0, 51, 60, 70, 80, 95, 111, 126, 142, 157, 175, 194, 212], [0, 0, 61, 71, 81, 96, 112, 127, 143, 158, 176, 195, 213], [0, 0, 0, 72, 82, 97, 113, 128, 144, 159, 177, 196, 214], [0, 0, 0, 0, 83, 98, 114, 129, 145, 160, 178, 197, 215], [0, 0, 0, 0, 0, 99, 115, 130, 146, 161, 179, 198, 216], [0, 0, 0, 0, 0, 0, 116, 131, 147, 162, 180, 199, 217], [0, 0, 0, 0, 0, 0, 0, 132, 148, 163, 181, 200, 218], [0, 0, 0, 0, 0, 0, 0, 0, 149, 164, 182, 201, 219], [0, 0, 0, 0, 0, 0, 0, 0, 0, 165, 183, 202, 220], [0, 0, 0, 0, 0, 0, 0, 0, 0, 0, 184, 203, 221], [0, 0, 0, 0, 0, 0, 0, 0, 0, 0, 0, 204, 222], [0, 0, 0, 0, 0, 0, 0, 0, 0, 0, 0, 0, 223], [0, 0, 0, 0, 0, 0, 0, 0, 0, 0, 0, 0, 0]]
theorem lw_k6a : ∀ i : Nat, i < 13 → ∀ j : Nat, j < 13 → i < j → lw_fl[(lw_pos.getD i []).getD j 0]? = some (Cond.not (Cond.eq (lw_tm i) (lw_tm j))) := by decide +kernel
theorem lw_k6 (i : Nat) (hi : i < 13) (j : Nat) (hj : j < 13) (hn : i ≠ j) : Cond.not (Cond.eq (lw_tm i) (lw_tm j)) ∈ lw_fl ∨ Cond.not (Cond.eq (lw_tm j) (lw_tm i)) ∈ lw_fl := by
  rcases Nat.lt_or_gt_of_ne hn with h | h
  · exact Or.inl (List.mem_of_getElem? (lw_k6a i hi j hj h))
  · exact Or.inr (List.mem_of_getElem? (lw_k6a j hj i hi h))
theorem lw_k7 : ∀ i : Nat, i < 13 → cr_txL.getD i 0 < 2 ^ 31 := by decide +kernel
theorem lw_t0 : ∀ j : Nat, j < 7 → Cond.eq (.elem (.static "CartRows" "FACTORIALS" "[I") (.int (Int32.ofNat j))) (.int (cr_tab 0 j)) ∈ lw_fl := by decide +kernel
theorem lw_t1 : ∀ j : Nat, j < 5 → Cond.eq (.elem (.static "CartRows" "LEAST_SETTING" "[I") (.int (Int32.ofNat j))) (.int (cr_tab 1 j)) ∈ lw_fl := by decide +kernel
theorem lw_t2 : ∀ j : Nat, j < 5 → Cond.eq (.elem (.static "CartRows" "MOST_SETTING" "[I") (.int (Int32.ofNat j))) (.int (cr_tab 2 j)) ∈ lw_fl := by decide +kernel
theorem lw_s0 : Cond.stringRef RX7 67 "keep" ∈ lw_tbl := List.mem_of_getElem? (i := 471) (by decide +kernel)
theorem lw_s1 : Cond.stringRef RX7 72 "slow" ∈ lw_tbl := List.mem_of_getElem? (i := 524) (by decide +kernel)
theorem lw_s2 : Cond.stringRef RX7 74 "fast" ∈ lw_tbl := List.mem_of_getElem? (i := 525) (by decide +kernel)
theorem lw_s3 : Cond.stringRef RX7 55 "when" ∈ lw_tbl := List.mem_of_getElem? (i := 534) (by decide +kernel)
theorem lw_s4 : Cond.stringRef RX7 99 "gap" ∈ lw_tbl := List.mem_of_getElem? (i := 543) (by decide +kernel)
theorem lw_s5 : Cond.stringRef RX7 101 "closing" ∈ lw_tbl := List.mem_of_getElem? (i := 544) (by decide +kernel)
theorem lw_s6 : Cond.stringRef RX7 103 "opening" ∈ lw_tbl := List.mem_of_getElem? (i := 545) (by decide +kernel)
theorem lw_s7 : Cond.stringRef RX7 105 "speed" ∈ lw_tbl := List.mem_of_getElem? (i := 546) (by decide +kernel)
theorem lw_s8 : Cond.stringRef RX7 107 "heard" ∈ lw_tbl := List.mem_of_getElem? (i := 547) (by decide +kernel)
theorem lw_s9 : Cond.stringRef RX7 109 "old" ∈ lw_tbl := List.mem_of_getElem? (i := 548) (by decide +kernel)
theorem lw_s10 : Cond.stringRef RX7 90 "above" ∈ lw_tbl := List.mem_of_getElem? (i := 549) (by decide +kernel)
theorem lw_s11 : Cond.stringRef RX7 92 "below" ∈ lw_tbl := List.mem_of_getElem? (i := 550) (by decide +kernel)
theorem lw_s12 : Cond.stringRef RX7 65 "and" ∈ lw_tbl := List.mem_of_getElem? (i := 551) (by decide +kernel)
theorem lw_n0 : Cond.methodLinkNest RX8 9 yX7_init "CartRows" ∈ lw_tbl := List.mem_of_getElem? (i := 86) (by decide +kernel)
theorem lw_n1 : Cond.methodLinkNest RX7 21 yX6_init "CartRows" ∈ lw_tbl := List.mem_of_getElem? (i := 92) (by decide +kernel)
theorem lw_n2 : Cond.methodLinkNest RX8 18 yX3_init "CartRows" ∈ lw_tbl := List.mem_of_getElem? (i := 145) (by decide +kernel)
theorem lw_n3 : Cond.methodLinkNest RX3 11 yX2_init "CartRows" ∈ lw_tbl := List.mem_of_getElem? (i := 152) (by decide +kernel)
theorem lw_n4 : Cond.methodLinkNest RX2 24 yX6_init "CartRows" ∈ lw_tbl := List.mem_of_getElem? (i := 157) (by decide +kernel)
theorem lw_n5 : Cond.methodLinkNest RX8 25 yX4_init "CartRows" ∈ lw_tbl := List.mem_of_getElem? (i := 261) (by decide +kernel)
theorem lw_n6 : Cond.methodLinkNest RX8 32 yX1_init "CartRows" ∈ lw_tbl := List.mem_of_getElem? (i := 307) (by decide +kernel)
theorem lw_n7 : Cond.methodLinkNest RX8 39 yX5_init "CartRows" ∈ lw_tbl := List.mem_of_getElem? (i := 346) (by decide +kernel)
theorem lw_n8 : Cond.methodLinkNest RX8 46 yX0_init "CartRows" ∈ lw_tbl := List.mem_of_getElem? (i := 358) (by decide +kernel)
theorem lw_nf : Cond.fieldLinkNest "CartRows$Shares" 20 "CartRows" "FACTORIALS" "[I" "CartRows" ∈ lw_tbl := List.mem_of_getElem? (i := 831) (by decide +kernel)
theorem lw_a1 : Cond.arrayOver (.array .int) ∈ lw_tbl := List.mem_of_getElem? (i := 97) (by decide +kernel)
theorem lw_a2 : Cond.arrayOver (.object "CartRows$Make") ∈ lw_tbl := List.mem_of_getElem? (i := 150) (by decide +kernel)
theorem lw_l0 : Cond.laysStatic "CartRows" "FACTORIALS" "[I" ∈ lw_tbl := List.mem_of_getElem? (i := 832) (by decide +kernel)
theorem lw_i0 : Cond.initialized "CartRows" ∈ lw_tbl := List.mem_of_getElem? (i := 59) (by decide +kernel)
theorem lw_l1 : Cond.laysStatic "CartRows" "LEAST_SETTING" "[I" ∈ lw_tbl := List.mem_of_getElem? (i := 570) (by decide +kernel)
theorem lw_i1 : Cond.initialized "CartRows" ∈ lw_tbl := List.mem_of_getElem? (i := 59) (by decide +kernel)
theorem lw_l2 : Cond.laysStatic "CartRows" "MOST_SETTING" "[I" ∈ lw_tbl := List.mem_of_getElem? (i := 572) (by decide +kernel)
theorem lw_i2 : Cond.initialized "CartRows" ∈ lw_tbl := List.mem_of_getElem? (i := 59) (by decide +kernel)
theorem lw_l3 : Cond.laysStatic "jdk/internal/util/Preconditions" "SIOOBE_FORMATTER" "Ljava/util/function/BiFunction;" ∈ lw_tbl := List.mem_of_getElem? (i := 501) (by decide +kernel)
theorem lw_i3 : Cond.initialized "jdk/internal/util/Preconditions" ∈ lw_tbl := List.mem_of_getElem? (i := 71) (by decide +kernel)
theorem lw_l4 : Cond.laysStatic "java/lang/String" "COMPACT_STRINGS" "Z" ∈ lw_tbl := List.mem_of_getElem? (i := 485) (by decide +kernel)
theorem lw_i4 : Cond.initialized "java/lang/String" ∈ lw_tbl := List.mem_of_getElem? (i := 69) (by decide +kernel)
theorem lw_skS {N : Nat} {len : List Nat} {byt : List (List Int32)} {a a' v v' : Nat → Nat} {A : Nat → Prop} {U : State} {H : Heap} (h : vk_S N len byt a v A U H) (e1 : ∀ i, i < N → a' i = a i) (e2 : ∀ i, i < N → v' i = v i) : vk_S N len byt a' v' A U H :=
  ⟨fun i hi => by rw [e1 i hi, e2 i hi]; exact h.1 i hi, fun i j hi hj e => h.2 i j hi hj (by rw [← e1 i hi, ← e1 j hj]; exact e)⟩
theorem lw_ST {args : Array Value} {s : State} (hts : ∀ w ∈ lw_tbl, w.before args s = true) (hgv : (Jvm.Cond.and given_1 narrow_1).before args s = true) (scr : Nat) : ∃ ad : Nat → Nat, cr_ad ad s.heap.size ∧ ad 1300 = scr ∧ cr_ST ad s.heap.size s s.heap := by
  have hA : ∀ a : Nat, a < s.heap.size → ¬ (fun q : Nat => s.heap.size ≤ q) a := fun a h => Nat.not_le.mpr h
  have hs : ∀ w ∈ lw_fl, w.before args s = true := flat_of_before _ hgv
  obtain ⟨t0, v0, T0⟩ := va_Tof (tm := .static "CartRows" "FACTORIALS" "[I") (ty := .int) (N := 7) (f := fun j => .int (cr_tab 0 j)) (A := fun q : Nat => s.heap.size ≤ q) (by decide) (hs _ (by decide +kernel)) (va_eqt (hs _ (by decide +kernel))) (fun j hj => va_eqt (hs _ (lw_t0 j hj))) hA
  obtain ⟨t1, v1, T1⟩ := va_Tof (tm := .static "CartRows" "LEAST_SETTING" "[I") (ty := .int) (N := 5) (f := fun j => .int (cr_tab 1 j)) (A := fun q : Nat => s.heap.size ≤ q) (by decide) (hs _ (by decide +kernel)) (va_eqt (hs _ (by decide +kernel))) (fun j hj => va_eqt (hs _ (lw_t1 j hj))) hA
  obtain ⟨t2, v2, T2⟩ := va_Tof (tm := .static "CartRows" "MOST_SETTING" "[I") (ty := .int) (N := 5) (f := fun j => .int (cr_tab 2 j)) (A := fun q : Nat => s.heap.size ≤ q) (by decide) (hs _ (by decide +kernel)) (va_eqt (hs _ (by decide +kernel))) (fun j hj => va_eqt (hs _ (lw_t2 j hj))) hA
  have Z0 := va_Zof (A := fun q : Nat => s.heap.size ≤ q) (hts _ lw_l0) (hts _ lw_i0) v0 hA
  have Z1 := va_Zof (A := fun q : Nat => s.heap.size ≤ q) (hts _ lw_l1) (hts _ lw_i1) v1 hA
  have Z2 := va_Zof (A := fun q : Nat => s.heap.size ≤ q) (hts _ lw_l2) (hts _ lw_i2) v2 hA
  have Zc := va_Zof (A := fun q : Nat => s.heap.size ≤ q) (hts _ lw_l4) (hts _ lw_i4) (va_eqt (z := 1) (hs _ (by decide +kernel))) hA
  have Zq := va_Zqof (A := fun q : Nat => s.heap.size ≤ q) (hts _ lw_l3) (hts _ lw_i3) (hs _ (by decide +kernel)) hA
  obtain ⟨tS, ZS⟩ : ∃ tS : Nat, va_Z "jdk/internal/util/Preconditions" "SIOOBE_FORMATTER" "Ljava/util/function/BiFunction;" .null (fun q => s.heap.size ≤ q) s s.heap ∨ va_Z "jdk/internal/util/Preconditions" "SIOOBE_FORMATTER" "Ljava/util/function/BiFunction;" (.ref tS) (fun q => s.heap.size ≤ q) s s.heap := by
    rcases Zq with z | ⟨t, z⟩
    · exact ⟨0, Or.inl z⟩
    · exact ⟨t, Or.inr z⟩
  obtain ⟨aK, aV, hSk, hev⟩ := vk_Sof (args := args) (s := s) (N := 13) (tm := lw_tm) (len := cr_txL) (byt := cr_txB) (A := fun q : Nat => s.heap.size ≤ q) lw_k7 (fun i hi => hs _ (lw_k1 i hi)) (fun i hi => hs _ (lw_k2 i hi)) (fun i hi => hs _ (lw_k3 i hi)) (fun i hi => hs _ (lw_k4 i hi)) (fun i hi j hj => hs _ (lw_k5 i hi j hj)) (fun i j hi hj hn => (lw_k6 i hi j hj hn).imp (fun q => hs _ q) (fun q => hs _ q)) hA
  obtain ⟨ad, had⟩ : ∃ ad : Nat → Nat, ad = fun q => if q < 1000 then s.heap.size + q else if q = 1000 then t0 else if q = 1001 then t1 else if q = 1002 then t2 else if q < 1100 then aK (q - 1003) else if q < 1200 then aV (q - 1100) else if q = 1200 then tS else scr := ⟨_, rfl⟩
  have a0 : ad 1000 = t0 := by rw [had]; rfl
  have a1 : ad 1001 = t1 := by rw [had]; rfl
  have a2 : ad 1002 = t2 := by rw [had]; rfl
  have aS : ad 1200 = tS := by rw [had]; rfl
  have eK : ∀ i, i < 13 → ad (1003 + i) = aK i := fun i hi => by
    rw [had]
    show (if 1003 + i < 1000 then _ else if 1003 + i = 1000 then _ else if 1003 + i = 1001 then _ else if 1003 + i = 1002 then _ else if 1003 + i < 1100 then aK (1003 + i - 1003) else _) = aK i
    rw [if_neg (by omega), if_neg (by omega), if_neg (by omega), if_neg (by omega), if_pos (by omega), Nat.add_sub_cancel_left]
  have eV : ∀ i, i < 13 → ad (1100 + i) = aV i := fun i hi => by
    rw [had]
    show (if 1100 + i < 1000 then _ else if 1100 + i = 1000 then _ else if 1100 + i = 1001 then _ else if 1100 + i = 1002 then _ else if 1100 + i < 1100 then _ else if 1100 + i < 1200 then aV (1100 + i - 1100) else _) = aV i
    rw [if_neg (by omega), if_neg (by omega), if_neg (by omega), if_neg (by omega), if_neg (by omega), if_pos (by omega), Nat.add_sub_cancel_left]
  have rr : ∀ i, i < 13 → (lw_tm i).eval args s none [] s = some (.ref (ad (1003 + i))) := fun i hi => by rw [eK i hi]; exact hev i hi
  refine ⟨ad, fun b hb => by rw [had]; exact if_pos hb, by rw [had]; rfl, ?_⟩
  refine ⟨⟨by rw [a0]; exact Z0, by rw [a1]; exact Z1, by rw [a2]; exact Z2, by rw [aS]; exact ZS⟩, ⟨by rw [a0]; exact T0, by rw [a1]; exact T1, by rw [a2]; exact T2⟩, Zc, lw_skS hSk eK eV, ⟨vk_R.of (hts _ lw_s0) (rr 0 (by decide)), vk_R.of (hts _ lw_s1) (rr 1 (by decide)), vk_R.of (hts _ lw_s2) (rr 2 (by decide)), vk_R.of (hts _ lw_s3) (rr 3 (by decide)), vk_R.of (hts _ lw_s4) (rr 4 (by decide)), vk_R.of (hts _ lw_s5) (rr 5 (by decide)), vk_R.of (hts _ lw_s6) (rr 6 (by decide)), vk_R.of (hts _ lw_s7) (rr 7 (by decide)), vk_R.of (hts _ lw_s8) (rr 8 (by decide)), vk_R.of (hts _ lw_s9) (rr 9 (by decide)), vk_R.of (hts _ lw_s10) (rr 10 (by decide)), vk_R.of (hts _ lw_s11) (rr 11 (by decide)), vk_R.of (hts _ lw_s12) (rr 12 (by decide))⟩, ⟨va_Nw.of rfl (hts _ lw_n0), va_Nw.of rfl (hts _ lw_n1), va_Nw.of rfl (hts _ lw_n2), va_Nw.of rfl (hts _ lw_n3), va_Nw.of rfl (hts _ lw_n4), va_Nw.of rfl (hts _ lw_n5), va_Nw.of rfl (hts _ lw_n6), va_Nw.of rfl (hts _ lw_n7), va_Nw.of rfl (hts _ lw_n8), va_Nw.of rfl (hts _ lw_nf)⟩, hts _ lw_a1, va_AO.of (hts _ lw_a2)⟩
theorem lw_K {args : Array Value} {s : State} (hts : ∀ w ∈ cr_GW, w.before args s = true) (htt : ∀ w ∈ lw_tbl, w.before args s = true) : ∃ (D : va_G) (g : cr_g), va_K D cr_cl (cr_ty g) s := by
  obtain ⟨c0, i0, k0⟩ := u_known (C := RX0) (T := TX0) (N := 9) (n := 9) hts cr_inX0 (hts _ wN_X0)
  obtain ⟨c1, i1, k1⟩ := u_known (C := RX1) (T := TX1) (N := 8) (n := 8) hts cr_inX1 (hts _ wN_X1)
  obtain ⟨c2, i2, k2⟩ := u_known (C := RX2) (T := TX2) (N := 5) (n := 5) hts cr_inX2 (hts _ wN_X2)
  obtain ⟨c3, i3, k3⟩ := u_known (C := RX3) (T := TX3) (N := 17) (n := 17) hts cr_inX3 (hts _ wN_X3)
  obtain ⟨c4, i4, k4⟩ := u_known (C := RX4) (T := TX4) (N := 10) (n := 10) hts cr_inX4 (hts _ wN_X4)
  obtain ⟨c5, i5, k5⟩ := u_known (C := RX5) (T := TX5) (N := 1) (n := 1) hts cr_inX5 (hts _ wN_X5)
  obtain ⟨c6, i6, k6⟩ := u_known (C := RX6) (T := TX6) (N := 6) (n := 6) hts cr_inX6 (hts _ wN_X6)
  obtain ⟨c7, i7, k7⟩ := u_known (C := RX7) (T := TX7) (N := 5) (n := 5) hts cr_inX7 (hts _ wN_X7)
  obtain ⟨c8, i8, k8⟩ := u_known (C := RX8) (T := TX8) (N := 6) (n := 6) hts cr_inX8 (hts _ wN_X8)
  obtain ⟨c9, i9, k9⟩ := u_known (C := RX9) (T := TX9) (N := 65) (n := 65) hts cr_inX9 (hts _ wN_X9)
  obtain ⟨cA, kA, oA, fA, hkA, hdA⟩ := Cond.arrayClass_spec (hts _ wA_int)
  obtain ⟨oB, cB, kB, -, -, hkB, hdB, fB⟩ := arrayOverA_spec (htt _ lw_a1)
  obtain ⟨oC, cC, kC, fO, -, hkC, hdC, fC⟩ := Cond.arrayOver_spec (htt _ lw_a2)
  refine ⟨(fun k => [c0, c1, c2, c3, c4, c5, c6, c7, c8, c9].getD k 0, fun k => [i0, i1, i2, i3, i4, i5, i6, i7, i8, i9].getD k (fun _ => 0)), (cA, cB, cC), fun k q hq => ?_, fun k q hq => ?_⟩
  · match k, hq with
    | 0, hq => cases hq; exact k0
    | 1, hq => cases hq; exact k1
    | 2, hq => cases hq; exact k2
    | 3, hq => cases hq; exact k3
    | 4, hq => cases hq; exact k4
    | 5, hq => cases hq; exact k5
    | 6, hq => cases hq; exact k6
    | 7, hq => cases hq; exact k7
    | 8, hq => cases hq; exact k8
    | 9, hq => cases hq; exact k9
    | k + 10, hq => simp [cr_cl] at hq
  · match k, hq with
    | 0, hq => cases hq; exact ⟨fun n z => ⟨(fun k h => by cases h), kA, hkA, oA, hdA⟩, fA⟩
    | 1, hq => cases hq; exact ⟨fun n z => ⟨(fun k h => by cases h), kB, hkB, oB, hdB⟩, fB⟩
    | 2, hq => cases hq; exact ⟨fun n z => ⟨(fun k h => by cases h), kC, hkC, oC, hdC⟩, kC, oC, hkC, hdC, fO, fC⟩
    | k + 3, hq => simp [cr_ty] at hq
