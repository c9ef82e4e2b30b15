/-! coins -/
def cr_coinS (dv md : Int32 → Int32) (sh : Nat → Int32) (rest0 own : Int32) (p : Nat) : Nat → Int32 × Int32
  | 0 => (rest0, 0)
  | q + 1 => ((cr_coinS dv md sh rest0 own p q).1 - dv (sh q), (cr_coinS dv md sh rest0 own p q).2 + (if own < md (sh q) ∨ (md (sh q) = own ∧ q < p) then 1 else 0))
def cr_coinR (dv md : Int32 → Int32) (sh : Nat → Int32) (rest0 : Int32) (p n : Nat) : Int32 := dv (sh p) + (if (cr_coinS dv md sh rest0 (md (sh p)) p n).1 ≤ (cr_coinS dv md sh rest0 (md (sh p)) p n).2 then 0 else 1)
def f_yX5_coins (τ : Nat → Nat) (x1 x2 : Int32) (I : cr_I) : Int32 := cr_coinR (fun v => f_yJ9_floorDiv_7cf53 τ v (cr_tab 0 x2.toNatClampNeg) I) (fun v => f_yJ9_floorMod_7cf53 τ v (cr_tab 0 x2.toNatClampNeg) I) (fun q => cr_sumS (fun p a => I (179 + p) a) q x2.toNatClampNeg (2 ^ x2.toNatClampNeg)) (cr_spS (fun p a => I (179 + p) a) (((1 : Int32) <<< (x2 &&& 31)) - 1) 6).1 x1.toNatClampNeg x2.toNatClampNeg
def p_yX5_coins (τ : Nat → Nat) (x1 x2 : Int32) (I : cr_I) : Prop := 0 ≤ x1.toInt ∧ x1.toInt < x2.toInt ∧ x2.toInt ≤ 6
theorem bk_yX5_coins_0 {Γ : cr_G} {K : cr_K} {τ : Nat → Nat} {I : cr_I} {x1 : Int32} {x2 : Int32} (hτ : cr_tau τ)  (h : cr_Ok yX5_coins cX5_coins 10 (some .int) (cr_rm0 2 50) K 247 247 Γ) (hyp : (0 ≤ x2.toInt ∧ x2.toInt < 7) ∧ (∀ v1 : Int32, v1 = (cr_tab 0 x2.toNatClampNeg) → (p_yX5_sparedOf τ (((1 : Int32) <<< (x2 &&& 31)) - (1 : Int32)) I ∧ (∀ v2 : Int32, v2 = (f_yX5_sparedOf τ (((1 : Int32) <<< (x2 &&& 31)) - (1 : Int32)) I) → (p_yX5_sumOverOrders τ x1 x2 I ∧ p_yJ9_floorMod_7cf53 τ (f_yX5_sumOverOrders τ x1 x2 I) v1 I ∧ (∀ v3 : Int32, v3 = (f_yJ9_floorMod_7cf53 τ (f_yX5_sumOverOrders τ x1 x2 I) v1 I) → cr_V Γ 35 [.ref 177, .int x1, .int x2, .int v1, .int v2, .int v3, .int (0 : Int32), .int (0 : Int32), .null, .null] [] I (cr_rf τ) 247)))))) : cr_V Γ 0 [.ref 177, .int x1, .int x2, .null, .null, .null, .null, .null, .null, .null] [] I (cr_rf τ) 247 := by
  refine cr_getsN h rfl dX5_coins_0 ?_
  refine cr_iload_n h (j := 2) rfl rfl dX5_coins_3 ?_
  refine cs_sald h (Or.inl ⟨rfl, hyp.1⟩) rfl dX5_coins_4 ?_
  have hyp := hyp.2
  refine cs_i_n h 3 rfl (by decide) rfl dX5_coins_5 (fun v1 ev1 => ?_)
  have hyp := hyp v1 ev1
  show cr_V Γ 6 [.ref 177, .int x1, .int x2, .int v1, .null, .null, .null, .null, .null, .null] [] I (cr_rf τ) 247
  refine cr_aload_n h (j := 0) rfl rfl dX5_coins_6 ?_
  refine cr_iconst h (v := (1 : Int32)) (by decide) dX5_coins_7 ?_
  refine cr_iload_n h (j := 2) rfl rfl dX5_coins_8 ?_
  refine cr_ishl h dX5_coins_9 ?_
  refine cr_iconst h (v := (1 : Int32)) (by decide) dX5_coins_10 ?_
  refine cr_isub h dX5_coins_11 ?_
  refine cr_callV h (c0 := 5) (T0 := TX5) C_yX5_sparedOf cZ_yX5_sparedOf wm_X5_27 wv_yX5_sparedOf we_yX5_sparedOf (by decide) rfl rfl (cr_rmS (by decide) (by decide)) (As := [.int (((1 : Int32) <<< (x2 &&& 31)) - (1 : Int32))]) rfl (Nat.le_of_ble_eq_true rfl) dX5_coins_12 ⟨τ, (((1 : Int32) <<< (x2 &&& 31)) - (1 : Int32)), rfl, hτ, rfl, hyp.1, ?_⟩
  have hyp := hyp.2
  show cr_V Γ 15 [.ref 177, .int x1, .int x2, .int v1, .null, .null, .null, .null, .null, .null] [.int (f_yX5_sparedOf τ (((1 : Int32) <<< (x2 &&& 31)) - (1 : Int32)) I)] I (cr_rf τ) 247
  refine cs_i h 4 (by decide) rfl dX5_coins_15 (fun v2 ev2 => ?_)
  have hyp := hyp v2 ev2
  show cr_V Γ 17 [.ref 177, .int x1, .int x2, .int v1, .int v2, .null, .null, .null, .null, .null] [] I (cr_rf τ) 247
  refine cr_aload_n h (j := 0) rfl rfl dX5_coins_17 ?_
  refine cr_iload_n h (j := 1) rfl rfl dX5_coins_18 ?_
  refine cr_iload_n h (j := 2) rfl rfl dX5_coins_19 ?_
  refine cr_callV h (c0 := 5) (T0 := TX5) C_yX5_sumOverOrders cZ_yX5_sumOverOrders wm_X5_16 wv_yX5_sumOverOrders we_yX5_sumOverOrders (by decide) rfl rfl (cr_rmS (by decide) (by decide)) (As := [.int x1, .int x2]) rfl (Nat.le_of_ble_eq_true rfl) dX5_coins_20 ⟨τ, x1, x2, rfl, hτ, rfl, hyp.1, ?_⟩
  have hyp := hyp.2
  show cr_V Γ 23 [.ref 177, .int x1, .int x2, .int v1, .int v2, .null, .null, .null, .null, .null] [.int (f_yX5_sumOverOrders τ x1 x2 I)] I (cr_rf τ) 247
  refine cr_iload_n h (j := 3) rfl rfl dX5_coins_23 ?_
  refine cr_callS h C_yJ9_floorMod_7cf53 cZ_yJ9_floorMod_7cf53 wm_X5_31 ws_yJ9_floorMod_7cf53 (cr_rmS (by decide) (by decide)) (As := [.int (f_yX5_sumOverOrders τ x1 x2 I), .int v1]) rfl (Nat.le_of_ble_eq_true rfl) dX5_coins_24 ⟨τ, (f_yX5_sumOverOrders τ x1 x2 I), v1, rfl, hτ, rfl, hyp.1, ?_⟩
  have hyp := hyp.2
  show cr_V Γ 27 [.ref 177, .int x1, .int x2, .int v1, .int v2, .null, .null, .null, .null, .null] [.int (f_yJ9_floorMod_7cf53 τ (f_yX5_sumOverOrders τ x1 x2 I) v1 I)] I (cr_rf τ) 247
  refine cs_i h 5 (by decide) rfl dX5_coins_27 (fun v3 ev3 => ?_)
  have hyp := hyp v3 ev3
  show cr_V Γ 29 [.ref 177, .int x1, .int x2, .int v1, .int v2, .int v3, .null, .null, .null, .null] [] I (cr_rf τ) 247
  refine cr_iconst h (v := (0 : Int32)) (by decide) dX5_coins_29 ?_
  refine cr_istore h (by decide) rfl dX5_coins_30 ?_
  show cr_V Γ 32 [.ref 177, .int x1, .int x2, .int v1, .int v2, .int v3, .int (0 : Int32), .null, .null, .null] [] I (cr_rf τ) 247
  refine cr_iconst h (v := (0 : Int32)) (by decide) dX5_coins_32 ?_
  refine cr_istore h (by decide) rfl dX5_coins_33 ?_
  show cr_V Γ 35 [.ref 177, .int x1, .int x2, .int v1, .int v2, .int v3, .int (0 : Int32), .int (0 : Int32), .null, .null] [] I (cr_rf τ) 247
  exact cr_weak [true, true, true, true, true, true, true, true, false, false] hyp
theorem bk_yX5_coins_35 {Γ : cr_G} {K : cr_K} {τ : Nat → Nat} {I : cr_I} {x1 : Int32} {x2 : Int32} {x3 : Int32} {x4 : Int32} {x5 : Int32} {x6 : Int32} {x7 : Int32} (hτ : cr_tau τ)  (h : cr_Ok yX5_coins cX5_coins 10 (some .int) (cr_rm0 2 50) K 247 247 Γ) (hyp : (x2 ≤ x7 → (p_yX5_sumOverOrders τ x1 x2 I ∧ p_yJ9_floorDiv_7cf53 τ (f_yX5_sumOverOrders τ x1 x2 I) x3 I ∧ (∀ v4 : Int32, v4 = (f_yJ9_floorDiv_7cf53 τ (f_yX5_sumOverOrders τ x1 x2 I) x3 I) → ((x4 ≤ x6 → K (some (.int v4)) I (cr_rf τ)) ∧ (¬ x4 ≤ x6 → K (some (.int (v4 + (1 : Int32)))) I (cr_rf τ)))))) ∧ (¬ x2 ≤ x7 → (p_yX5_sumOverOrders τ x7 x2 I ∧ (∀ v5 : Int32, v5 = (f_yX5_sumOverOrders τ x7 x2 I) → (p_yJ9_floorDiv_7cf53 τ v5 x3 I ∧ (∀ v6 : Int32, v6 = (x4 - (f_yJ9_floorDiv_7cf53 τ v5 x3 I)) → (p_yJ9_floorMod_7cf53 τ v5 x3 I ∧ (∀ v7 : Int32, v7 = (f_yJ9_floorMod_7cf53 τ v5 x3 I) → ((x5 < v7 → (∀ v8 : Int32, v8 = x6 + (1 : Int32) → (∀ v9 : Int32, v9 = x7 + (1 : Int32) → cr_V Γ 35 [.ref 177, .int x1, .int x2, .int x3, .int v6, .int x5, .int v8, .int v9, .null, .null] [] I (cr_rf τ) 247))) ∧ (¬ x5 < v7 → ((¬ v7 = x5 → (∀ v10 : Int32, v10 = x7 + (1 : Int32) → cr_V Γ 35 [.ref 177, .int x1, .int x2, .int x3, .int v6, .int x5, .int x6, .int v10, .null, .null] [] I (cr_rf τ) 247)) ∧ (v7 = x5 → ((x1 ≤ x7 → (∀ v11 : Int32, v11 = x7 + (1 : Int32) → cr_V Γ 35 [.ref 177, .int x1, .int x2, .int x3, .int v6, .int x5, .int x6, .int v11, .null, .null] [] I (cr_rf τ) 247)) ∧ (¬ x1 ≤ x7 → (∀ v12 : Int32, v12 = x6 + (1 : Int32) → (∀ v13 : Int32, v13 = x7 + (1 : Int32) → cr_V Γ 35 [.ref 177, .int x1, .int x2, .int x3, .int v6, .int x5, .int v12, .int v13, .null, .null] [] I (cr_rf τ) 247)))))))))))))))) : cr_V Γ 35 [.ref 177, .int x1, .int x2, .int x3, .int x4, .int x5, .int x6, .int x7, .null, .null] [] I (cr_rf τ) 247 := by
  refine cr_iload h rfl dX5_coins_35 ?_
  refine cr_iload_n h (j := 2) rfl rfl dX5_coins_37 ?_
  refine cr_icmp_ge h (tgt := 98) (by decide) dX5_coins_38 (fun c1 => ?_) (fun c1 => ?_)
  · have hyp := hyp.1 c1
    refine cr_aload_n h (j := 0) rfl rfl dX5_coins_98 ?_
    refine cr_iload_n h (j := 1) rfl rfl dX5_coins_99 ?_
    refine cr_iload_n h (j := 2) rfl rfl dX5_coins_100 ?_
    refine cr_callV h (c0 := 5) (T0 := TX5) C_yX5_sumOverOrders cZ_yX5_sumOverOrders wm_X5_16 wv_yX5_sumOverOrders we_yX5_sumOverOrders (by decide) rfl rfl (cr_rmS (by decide) (by decide)) (As := [.int x1, .int x2]) rfl (Nat.le_of_ble_eq_true rfl) dX5_coins_101 ⟨τ, x1, x2, rfl, hτ, rfl, hyp.1, ?_⟩
    have hyp := hyp.2
    show cr_V Γ 104 [.ref 177, .int x1, .int x2, .int x3, .int x4, .int x5, .int x6, .int x7, .null, .null] [.int (f_yX5_sumOverOrders τ x1 x2 I)] I (cr_rf τ) 247
    refine cr_iload_n h (j := 3) rfl rfl dX5_coins_104 ?_
    refine cr_callS h C_yJ9_floorDiv_7cf53 cZ_yJ9_floorDiv_7cf53 wm_X5_36 ws_yJ9_floorDiv_7cf53 (cr_rmS (by decide) (by decide)) (As := [.int (f_yX5_sumOverOrders τ x1 x2 I), .int x3]) rfl (Nat.le_of_ble_eq_true rfl) dX5_coins_105 ⟨τ, (f_yX5_sumOverOrders τ x1 x2 I), x3, rfl, hτ, rfl, hyp.1, ?_⟩
    have hyp := hyp.2
    show cr_V Γ 108 [.ref 177, .int x1, .int x2, .int x3, .int x4, .int x5, .int x6, .int x7, .null, .null] [.int (f_yJ9_floorDiv_7cf53 τ (f_yX5_sumOverOrders τ x1 x2 I) x3 I)] I (cr_rf τ) 247
    refine cs_i h 7 (by decide) rfl dX5_coins_108 (fun v4 ev4 => ?_)
    have hyp := hyp v4 ev4
    show cr_V Γ 110 [.ref 177, .int x1, .int x2, .int x3, .int x4, .int x5, .int x6, .int v4, .null, .null] [] I (cr_rf τ) 247
    refine cr_iload h rfl dX5_coins_110 ?_
    refine cr_iload h rfl dX5_coins_112 ?_
    refine cr_icmp_ge h (tgt := 124) (by decide) dX5_coins_114 (fun c2 => ?_) (fun c2 => ?_)
    · have hyp := hyp.1 c2
      refine cr_iload h rfl dX5_coins_124 ?_
      refine cr_iret h rfl rfl rfl dX5_coins_126 ?_
      exact hyp
    · have hyp := hyp.2 c2
      refine cr_iload h rfl dX5_coins_117 ?_
      refine cr_iconst h (v := (1 : Int32)) (by decide) dX5_coins_119 ?_
      refine cr_iadd h dX5_coins_120 ?_
      refine cr_goto h (tgt := 126) (by decide) dX5_coins_121 ?_
      refine cr_iret h rfl rfl rfl dX5_coins_126 ?_
      exact hyp
  · have hyp := hyp.2 c1
    refine cr_aload_n h (j := 0) rfl rfl dX5_coins_41 ?_
    refine cr_iload h rfl dX5_coins_42 ?_
    refine cr_iload_n h (j := 2) rfl rfl dX5_coins_44 ?_
    refine cr_callV h (c0 := 5) (T0 := TX5) C_yX5_sumOverOrders cZ_yX5_sumOverOrders wm_X5_16 wv_yX5_sumOverOrders we_yX5_sumOverOrders (by decide) rfl rfl (cr_rmS (by decide) (by decide)) (As := [.int x7, .int x2]) rfl (Nat.le_of_ble_eq_true rfl) dX5_coins_45 ⟨τ, x7, x2, rfl, hτ, rfl, hyp.1, ?_⟩
    have hyp := hyp.2
    show cr_V Γ 48 [.ref 177, .int x1, .int x2, .int x3, .int x4, .int x5, .int x6, .int x7, .null, .null] [.int (f_yX5_sumOverOrders τ x7 x2 I)] I (cr_rf τ) 247
    refine cs_i h 8 (by decide) rfl dX5_coins_48 (fun v5 ev5 => ?_)
    have hyp := hyp v5 ev5
    show cr_V Γ 50 [.ref 177, .int x1, .int x2, .int x3, .int x4, .int x5, .int x6, .int x7, .int v5, .null] [] I (cr_rf τ) 247
    refine cr_iload h rfl dX5_coins_50 ?_
    refine cr_iload h rfl dX5_coins_52 ?_
    refine cr_iload_n h (j := 3) rfl rfl dX5_coins_54 ?_
    refine cr_callS h C_yJ9_floorDiv_7cf53 cZ_yJ9_floorDiv_7cf53 wm_X5_36 ws_yJ9_floorDiv_7cf53 (cr_rmS (by decide) (by decide)) (As := [.int v5, .int x3]) rfl (Nat.le_of_ble_eq_true rfl) dX5_coins_55 ⟨τ, v5, x3, rfl, hτ, rfl, hyp.1, ?_⟩
    have hyp := hyp.2
    show cr_V Γ 58 [.ref 177, .int x1, .int x2, .int x3, .int x4, .int x5, .int x6, .int x7, .int v5, .null] [.int (f_yJ9_floorDiv_7cf53 τ v5 x3 I), .int x4] I (cr_rf τ) 247
    refine cr_isub h dX5_coins_58 ?_
    refine cs_i h 4 (by decide) rfl dX5_coins_59 (fun v6 ev6 => ?_)
    have hyp := hyp v6 ev6
    show cr_V Γ 61 [.ref 177, .int x1, .int x2, .int x3, .int v6, .int x5, .int x6, .int x7, .int v5, .null] [] I (cr_rf τ) 247
    refine cr_iload h rfl dX5_coins_61 ?_
    refine cr_iload_n h (j := 3) rfl rfl dX5_coins_63 ?_
    refine cr_callS h C_yJ9_floorMod_7cf53 cZ_yJ9_floorMod_7cf53 wm_X5_31 ws_yJ9_floorMod_7cf53 (cr_rmS (by decide) (by decide)) (As := [.int v5, .int x3]) rfl (Nat.le_of_ble_eq_true rfl) dX5_coins_64 ⟨τ, v5, x3, rfl, hτ, rfl, hyp.1, ?_⟩
    have hyp := hyp.2
    show cr_V Γ 67 [.ref 177, .int x1, .int x2, .int x3, .int v6, .int x5, .int x6, .int x7, .int v5, .null] [.int (f_yJ9_floorMod_7cf53 τ v5 x3 I)] I (cr_rf τ) 247
    refine cs_i h 9 (by decide) rfl dX5_coins_67 (fun v7 ev7 => ?_)
    have hyp := hyp v7 ev7
    show cr_V Γ 69 [.ref 177, .int x1, .int x2, .int x3, .int v6, .int x5, .int x6, .int x7, .int v5, .int v7] [] I (cr_rf τ) 247
    refine cr_iload h rfl dX5_coins_69 ?_
    refine cr_iload h rfl dX5_coins_71 ?_
    refine cr_icmp_gt h (tgt := 89) (by decide) dX5_coins_73 (fun c3 => ?_) (fun c3 => ?_)
    · have hyp := hyp.1 c3
      refine cs_inc h (v := (1 : Int32)) 6 rfl (by decide) (by decide) rfl dX5_coins_89 (fun v8 ev8 => ?_)
      have hyp := hyp v8 ev8
      show cr_V Γ 92 [.ref 177, .int x1, .int x2, .int x3, .int v6, .int x5, .int v8, .int x7, .int v5, .int v7] [] I (cr_rf τ) 247
      refine cs_inc h (v := (1 : Int32)) 7 rfl (by decide) (by decide) rfl dX5_coins_92 (fun v9 ev9 => ?_)
      have hyp := hyp v9 ev9
      show cr_V Γ 95 [.ref 177, .int x1, .int x2, .int x3, .int v6, .int x5, .int v8, .int v9, .int v5, .int v7] [] I (cr_rf τ) 247
      refine cr_goto h (tgt := 35) (by decide) dX5_coins_95 ?_
      exact cr_weak [true, true, true, true, true, true, true, true, false, false] hyp
    · have hyp := hyp.2 c3
      refine cr_iload h rfl dX5_coins_76 ?_
      refine cr_iload h rfl dX5_coins_78 ?_
      refine cr_icmp_ne h (tgt := 92) (by decide) dX5_coins_80 (fun c4 => ?_) (fun c4 => ?_)
      · have hyp := hyp.1 c4
        refine cs_inc h (v := (1 : Int32)) 7 rfl (by decide) (by decide) rfl dX5_coins_92 (fun v10 ev10 => ?_)
        have hyp := hyp v10 ev10
        show cr_V Γ 95 [.ref 177, .int x1, .int x2, .int x3, .int v6, .int x5, .int x6, .int v10, .int v5, .int v7] [] I (cr_rf τ) 247
        refine cr_goto h (tgt := 35) (by decide) dX5_coins_95 ?_
        exact cr_weak [true, true, true, true, true, true, true, true, false, false] hyp
      · have hyp := hyp.2 c4
        refine cr_iload h rfl dX5_coins_83 ?_
        refine cr_iload_n h (j := 1) rfl rfl dX5_coins_85 ?_
        refine cr_icmp_ge h (tgt := 92) (by decide) dX5_coins_86 (fun c5 => ?_) (fun c5 => ?_)
        · have hyp := hyp.1 c5
          refine cs_inc h (v := (1 : Int32)) 7 rfl (by decide) (by decide) rfl dX5_coins_92 (fun v11 ev11 => ?_)
          have hyp := hyp v11 ev11
          show cr_V Γ 95 [.ref 177, .int x1, .int x2, .int x3, .int v6, .int x5, .int x6, .int v11, .int v5, .int v7] [] I (cr_rf τ) 247
          refine cr_goto h (tgt := 35) (by decide) dX5_coins_95 ?_
          exact cr_weak [true, true, true, true, true, true, true, true, false, false] hyp
        · have hyp := hyp.2 c5
          refine cs_inc h (v := (1 : Int32)) 6 rfl (by decide) (by decide) rfl dX5_coins_89 (fun v12 ev12 => ?_)
          have hyp := hyp v12 ev12
          show cr_V Γ 92 [.ref 177, .int x1, .int x2, .int x3, .int v6, .int x5, .int v12, .int x7, .int v5, .int v7] [] I (cr_rf τ) 247
          refine cs_inc h (v := (1 : Int32)) 7 rfl (by decide) (by decide) rfl dX5_coins_92 (fun v13 ev13 => ?_)
          have hyp := hyp v13 ev13
          show cr_V Γ 95 [.ref 177, .int x1, .int x2, .int x3, .int v6, .int x5, .int v12, .int v13, .int v5, .int v7] [] I (cr_rf τ) 247
          refine cr_goto h (tgt := 35) (by decide) dX5_coins_95 ?_
          exact cr_weak [true, true, true, true, true, true, true, true, false, false] hyp
abbrev T_yX5_coins : cr_T := fun vs I R K => ∃ (τ : Nat → Nat) (x1 : Int32) (x2 : Int32), R = cr_rf τ ∧ cr_tau τ ∧ vs = [.ref 177, .int x1, .int x2] ∧ p_yX5_coins τ x1 x2 I ∧ K (some (.int (f_yX5_coins τ x1 x2 I))) I (cr_rf τ)
abbrev S_yX5_coins : Prop := cr_C yX5_coins cX5_coins 10 (some .int) (cr_rm0 2 50) 247 247 T_yX5_coins
theorem G_yX5_coins (H : ∀ (Γ : cr_G) (K : cr_K) (τ : Nat → Nat) (x1 : Int32) (x2 : Int32) (I : cr_I), cr_tau τ → cr_Ok yX5_coins cX5_coins 10 (some .int) (cr_rm0 2 50) K 247 247 Γ → p_yX5_coins τ x1 x2 I → K (some (.int (f_yX5_coins τ x1 x2 I))) I (cr_rf τ) → cr_V Γ 0 [.ref 177, .int x1, .int x2, .null, .null, .null, .null, .null, .null, .null] [] I (cr_rf τ) 247) : cr_C yX5_coins cX5_coins 10 (some .int) (cr_rm0 2 50) 247 247 T_yX5_coins := by
  refine cr_C.of (by decide +kernel) (fun vs I R K hT => ?_) (fun Γ K h vs I R hT => ?_)
  · obtain ⟨τ, x1, x2, rfl, hτ, rfl, hp, hK⟩ := hT
    exact Nat.le_of_ble_eq_true rfl
  · obtain ⟨τ, x1, x2, rfl, hτ, rfl, hp, hK⟩ := hT
    exact H Γ K τ x1 x2 I hτ h hp hK
theorem cr_tab0 : ∀ n, n < 7 → ¬ cr_tab 0 n = 0 := by decide +kernel
theorem cr_fdp {τ : Nat → Nat} {x y : Int32} {I : cr_I} (h : ¬ y = 0) : p_yJ9_floorDiv_7cf53 τ x y I := ⟨h, fun _ _ => ⟨fun _ => trivial, fun _ => ⟨fun _ => trivial, fun _ => trivial⟩⟩⟩
theorem cr_fmp {τ : Nat → Nat} {x y : Int32} {I : cr_I} (h : ¬ y = 0) : p_yJ9_floorMod_7cf53 τ x y I := ⟨h, fun _ _ => ⟨fun _ => trivial, fun _ => ⟨fun _ => trivial, fun _ => trivial⟩⟩⟩
theorem C_yX5_coins : cr_C yX5_coins cX5_coins 10 (some .int) (cr_rm0 2 50) 247 247 T_yX5_coins := G_yX5_coins (by
  intro Γ K τ x1 x2 I hτ h hp hK
  obtain ⟨h1, h2, h3⟩ := hp
  obtain ⟨eP, hP⟩ := cr_ofI (x := x1) (B := 6) h1 (by omega)
  obtain ⟨eN, hN⟩ := cr_ofI (x := x2) (B := 6) (by omega) h3
  have hpn : x1.toNatClampNeg < x2.toNatClampNeg := by
    show x1.toInt.toNat < x2.toInt.toNat
    omega
  unfold f_yX5_coins at hK
  have hsh : ∀ q, q < x2.toNatClampNeg → p_yX5_sumOverOrders τ (nI q) x2 I ∧ f_yX5_sumOverOrders τ (nI q) x2 I = cr_sumS (fun p a => I (179 + p) a) q x2.toNatClampNeg (2 ^ x2.toNatClampNeg) := by
    intro q hq
    have : x2.toInt = x2.toNatClampNeg := by
      show x2.toInt = ((x2.toInt.toNat : Nat) : Int)
      omega
    refine ⟨⟨?_, ?_, h3⟩, ?_⟩
    · rw [cr_nt (by omega)]; omega
    · rw [cr_nt (by omega)]; omega
    · unfold f_yX5_sumOverOrders
      rw [cr_nc (by omega)]
  generalize hsum : (fun q => cr_sumS (fun p a => I (179 + p) a) q x2.toNatClampNeg (2 ^ x2.toNatClampNeg)) = sh at hK
  have hsh' : ∀ q, q < x2.toNatClampNeg → p_yX5_sumOverOrders τ (nI q) x2 I ∧ f_yX5_sumOverOrders τ (nI q) x2 I = sh q := fun q hq => by rw [← hsum]; exact hsh q hq
  generalize hrest : (cr_spS (fun p a => I (179 + p) a) (((1 : Int32) <<< (x2 &&& 31)) - 1) 6).1 = rest0 at hK
  have hall := cr_tab0 x2.toNatClampNeg (by omega)
  generalize hdv : (fun v => f_yJ9_floorDiv_7cf53 τ v (cr_tab 0 x2.toNatClampNeg) I) = dv at hK
  generalize hmd : (fun v => f_yJ9_floorMod_7cf53 τ v (cr_tab 0 x2.toNatClampNeg) I) = md at hK
  have ed : ∀ v, f_yJ9_floorDiv_7cf53 τ v (cr_tab 0 x2.toNatClampNeg) I = dv v := fun v => by rw [← hdv]
  have em : ∀ v, f_yJ9_floorMod_7cf53 τ v (cr_tab 0 x2.toNatClampNeg) I = md v := fun v => by rw [← hmd]
  generalize hA : cr_tab 0 x2.toNatClampNeg = all at *
  have hx2 : (0 : Int) ≤ x2.toInt ∧ x2.toInt < 7 := by omega
  have es : f_yX5_sumOverOrders τ x1 x2 I = sh x1.toNatClampNeg := by
    have := (hsh' x1.toNatClampNeg hpn).2
    rw [← eP] at this
    exact this
  have ps : p_yX5_sumOverOrders τ x1 x2 I := ⟨h1, h2, h3⟩
  refine bk_yX5_coins_0 hτ h ⟨hx2, ?_⟩
  rw [hA]
  rintro v1 rfl
  refine ⟨trivial, ?_⟩
  unfold f_yX5_sparedOf
  rw [hrest]
  rintro v2 rfl
  refine ⟨ps, cr_fmp hall, ?_⟩
  rw [es, em]
  rintro v3 rfl
  refine cr_loop (fun q => cr_V Γ 35 [.ref 177, .int x1, .int x2, .int v1, .int (cr_coinS dv md sh v2 (md (sh x1.toNatClampNeg)) x1.toNatClampNeg q).1, .int (md (sh x1.toNatClampNeg)), .int (cr_coinS dv md sh v2 (md (sh x1.toNatClampNeg)) x1.toNatClampNeg q).2, .int (nI q), .null, .null] [] I (cr_rf τ) 247) x2.toNatClampNeg ?_ ?_ 0 (Nat.zero_le _)
  · refine bk_yX5_coins_35 hτ h ⟨fun _ => ⟨ps, cr_fdp hall, ?_⟩, fun c => absurd ?_ c⟩
    · rw [es, ed]
      rintro v4 rfl
      unfold cr_coinR at hK
      refine ⟨fun c => ?_, fun c => ?_⟩
      · rw [if_pos c, Int32.add_zero] at hK
        exact hK
      · rw [if_neg c] at hK
        exact hK
    · rw [← eN]; exact Int32.le_refl _
  · intro q hq ih
    obtain ⟨pq, eq⟩ := hsh' q hq
    rw [cr_coinS] at ih
    refine bk_yX5_coins_35 hτ h ⟨fun c => absurd c ?_, fun _ => ⟨pq, ?_⟩⟩
    · rw [eN]; exact cr_nle hq (by omega)
    · rw [eq]
      rintro v5 rfl
      refine ⟨cr_fdp hall, ?_⟩
      rw [ed]
      rintro v6 rfl
      refine ⟨cr_fmp hall, ?_⟩
      rw [em]
      rintro v7 rfl
      have hle : x1 ≤ nI q ↔ x1.toNatClampNeg ≤ q := by
        rw [eP]
        rw [cr_nc (by omega)]
        exact nI_leI (by omega) (by omega)
      refine ⟨fun c => ?_, fun c => ⟨fun c2 => ?_, fun c2 => ⟨fun c3 => ?_, fun c3 => ?_⟩⟩⟩
      · rintro v8 rfl v9 rfl
        rw [nI_1]
        rw [if_pos (Or.inl c)] at ih
        exact ih
      · rintro v8 rfl
        rw [nI_1]
        rw [if_neg (fun z => z.elim c (fun z => c2 z.1)), Int32.add_zero] at ih
        exact ih
      · rintro v8 rfl
        rw [nI_1]
        rw [if_neg (fun z => z.elim c (fun z => by have := hle.mp c3; omega)), Int32.add_zero] at ih
        exact ih
      · rintro v8 rfl v9 rfl
        rw [nI_1]
        rw [if_pos (Or.inr ⟨c2, Nat.not_le.mp (fun z => c3 (hle.mpr z))⟩)] at ih
        exact ih)
def f_yX9_coins (τ : Nat → Nat) (x1 x2 : Int32) (I : cr_I) : Int32 := cr_coinR (fun v => f_yX9_cut τ v (cr_tab 0 x2.toNatClampNeg) I) (fun v => v - cr_tab 0 x2.toNatClampNeg * f_yX9_cut τ v (cr_tab 0 x2.toNatClampNeg) I) (fun q => cr_sumS (fun p a => I 226 (6 * p + a)) q x2.toNatClampNeg (2 ^ x2.toNatClampNeg)) (cr_spS (fun p a => I 226 (6 * p + a)) (((1 : Int32) <<< (x2 &&& 31)) - 1) 6).1 x1.toNatClampNeg x2.toNatClampNeg
def p_yX9_coins (τ : Nat → Nat) (x1 x2 : Int32) (I : cr_I) : Prop := 0 ≤ x1.toInt ∧ x1.toInt < x2.toInt ∧ x2.toInt ≤ 6
theorem bk_yX9_coins_0 {Γ : cr_G} {K : cr_K} {τ : Nat → Nat} {I : cr_I} {x1 : Int32} {x2 : Int32} (hτ : cr_tau τ)  (h : cr_Ok yX9_coins cX9_coins 10 (some .int) (cr_rm0 2 49) K 247 247 Γ) (hyp : p_yX9_factorial τ x2 I ∧ (∀ v1 : Int32, v1 = (f_yX9_factorial τ x2 I) → (p_yX9_sparedIn τ (((1 : Int32) <<< (x2 &&& 31)) - (1 : Int32)) I ∧ (∀ v2 : Int32, v2 = (f_yX9_sparedIn τ (((1 : Int32) <<< (x2 &&& 31)) - (1 : Int32)) I) → (p_yX9_shareOf τ x1 x2 I ∧ p_yX9_shareOf τ x1 x2 I ∧ p_yX9_cut τ (f_yX9_shareOf τ x1 x2 I) v1 I ∧ (∀ v3 : Int32, v3 = ((f_yX9_shareOf τ x1 x2 I) - (v1 * (f_yX9_cut τ (f_yX9_shareOf τ x1 x2 I) v1 I))) → cr_V Γ 43 [.ref 200, .int x1, .int x2, .int v1, .int v2, .int (0 : Int32), .int v3, .int (0 : Int32), .null, .null] [] I (cr_rf τ) 247)))))) : cr_V Γ 0 [.ref 200, .int x1, .int x2, .null, .null, .null, .null, .null, .null, .null] [] I (cr_rf τ) 247 := by
  refine cr_iload_n h (j := 2) rfl rfl dX9_coins_0 ?_
  refine cr_callS h C_yX9_factorial cZ_yX9_factorial wm_X9_361 ws_yX9_factorial (cr_rmS (by decide) (by decide)) (As := [.int x2]) rfl (Nat.le_of_ble_eq_true rfl) dX9_coins_1 ⟨τ, x2, rfl, hτ, rfl, hyp.1, ?_⟩
  have hyp := hyp.2
  show cr_V Γ 4 [.ref 200, .int x1, .int x2, .null, .null, .null, .null, .null, .null, .null] [.int (f_yX9_factorial τ x2 I)] I (cr_rf τ) 247
  refine cs_i_n h 3 rfl (by decide) rfl dX9_coins_4 (fun v1 ev1 => ?_)
  have hyp := hyp v1 ev1
  show cr_V Γ 5 [.ref 200, .int x1, .int x2, .int v1, .null, .null, .null, .null, .null, .null] [] I (cr_rf τ) 247
  refine cr_aload_n h (j := 0) rfl rfl dX9_coins_5 ?_
  refine cr_iconst h (v := (1 : Int32)) (by decide) dX9_coins_6 ?_
  refine cr_iload_n h (j := 2) rfl rfl dX9_coins_7 ?_
  refine cr_ishl h dX9_coins_8 ?_
  refine cr_iconst h (v := (1 : Int32)) (by decide) dX9_coins_9 ?_
  refine cr_isub h dX9_coins_10 ?_
  refine cr_callV h (c0 := 9) (T0 := TX9) C_yX9_sparedIn cZ_yX9_sparedIn wm_X9_358 wv_yX9_sparedIn we_yX9_sparedIn (by decide) rfl rfl (cr_rmS (by decide) (by decide)) (As := [.int (((1 : Int32) <<< (x2 &&& 31)) - (1 : Int32))]) rfl (Nat.le_of_ble_eq_true rfl) dX9_coins_11 ⟨τ, (((1 : Int32) <<< (x2 &&& 31)) - (1 : Int32)), rfl, hτ, rfl, hyp.1, ?_⟩
  have hyp := hyp.2
  show cr_V Γ 14 [.ref 200, .int x1, .int x2, .int v1, .null, .null, .null, .null, .null, .null] [.int (f_yX9_sparedIn τ (((1 : Int32) <<< (x2 &&& 31)) - (1 : Int32)) I)] I (cr_rf τ) 247
  refine cs_i h 4 (by decide) rfl dX9_coins_14 (fun v2 ev2 => ?_)
  have hyp := hyp v2 ev2
  show cr_V Γ 16 [.ref 200, .int x1, .int x2, .int v1, .int v2, .null, .null, .null, .null, .null] [] I (cr_rf τ) 247
  refine cr_iconst h (v := (0 : Int32)) (by decide) dX9_coins_16 ?_
  refine cr_istore h (by decide) rfl dX9_coins_17 ?_
  show cr_V Γ 19 [.ref 200, .int x1, .int x2, .int v1, .int v2, .int (0 : Int32), .null, .null, .null, .null] [] I (cr_rf τ) 247
  refine cr_aload_n h (j := 0) rfl rfl dX9_coins_19 ?_
  refine cr_iload_n h (j := 1) rfl rfl dX9_coins_20 ?_
  refine cr_iload_n h (j := 2) rfl rfl dX9_coins_21 ?_
  refine cr_callV h (c0 := 9) (T0 := TX9) C_yX9_shareOf cZ_yX9_shareOf wm_X9_364 wv_yX9_shareOf we_yX9_shareOf (by decide) rfl rfl (cr_rmS (by decide) (by decide)) (As := [.int x1, .int x2]) rfl (Nat.le_of_ble_eq_true rfl) dX9_coins_22 ⟨τ, x1, x2, rfl, hτ, rfl, hyp.1, ?_⟩
  have hyp := hyp.2
  show cr_V Γ 25 [.ref 200, .int x1, .int x2, .int v1, .int v2, .int (0 : Int32), .null, .null, .null, .null] [.int (f_yX9_shareOf τ x1 x2 I)] I (cr_rf τ) 247
  refine cr_iload_n h (j := 3) rfl rfl dX9_coins_25 ?_
  refine cr_aload_n h (j := 0) rfl rfl dX9_coins_26 ?_
  refine cr_iload_n h (j := 1) rfl rfl dX9_coins_27 ?_
  refine cr_iload_n h (j := 2) rfl rfl dX9_coins_28 ?_
  refine cr_callV h (c0 := 9) (T0 := TX9) C_yX9_shareOf cZ_yX9_shareOf wm_X9_364 wv_yX9_shareOf we_yX9_shareOf (by decide) rfl rfl (cr_rmS (by decide) (by decide)) (As := [.int x1, .int x2]) rfl (Nat.le_of_ble_eq_true rfl) dX9_coins_29 ⟨τ, x1, x2, rfl, hτ, rfl, hyp.1, ?_⟩
  have hyp := hyp.2
  show cr_V Γ 32 [.ref 200, .int x1, .int x2, .int v1, .int v2, .int (0 : Int32), .null, .null, .null, .null] [.int (f_yX9_shareOf τ x1 x2 I), .int v1, .int (f_yX9_shareOf τ x1 x2 I)] I (cr_rf τ) 247
  refine cr_iload_n h (j := 3) rfl rfl dX9_coins_32 ?_
  refine cr_callS h C_yX9_cut cZ_yX9_cut wm_X9_367 ws_yX9_cut (cr_rmS (by decide) (by decide)) (As := [.int (f_yX9_shareOf τ x1 x2 I), .int v1]) rfl (Nat.le_of_ble_eq_true rfl) dX9_coins_33 ⟨τ, (f_yX9_shareOf τ x1 x2 I), v1, rfl, hτ, rfl, hyp.1, ?_⟩
  have hyp := hyp.2
  show cr_V Γ 36 [.ref 200, .int x1, .int x2, .int v1, .int v2, .int (0 : Int32), .null, .null, .null, .null] [.int (f_yX9_cut τ (f_yX9_shareOf τ x1 x2 I) v1 I), .int v1, .int (f_yX9_shareOf τ x1 x2 I)] I (cr_rf τ) 247
  refine cr_imul h dX9_coins_36 ?_
  refine cr_isub h dX9_coins_37 ?_
  refine cs_i h 6 (by decide) rfl dX9_coins_38 (fun v3 ev3 => ?_)
  have hyp := hyp v3 ev3
  show cr_V Γ 40 [.ref 200, .int x1, .int x2, .int v1, .int v2, .int (0 : Int32), .int v3, .null, .null, .null] [] I (cr_rf τ) 247
  refine cr_iconst h (v := (0 : Int32)) (by decide) dX9_coins_40 ?_
  refine cr_istore h (by decide) rfl dX9_coins_41 ?_
  show cr_V Γ 43 [.ref 200, .int x1, .int x2, .int v1, .int v2, .int (0 : Int32), .int v3, .int (0 : Int32), .null, .null] [] I (cr_rf τ) 247
  exact cr_weak [true, true, true, true, true, true, true, true, false, false] hyp
theorem bk_yX9_coins_43 {Γ : cr_G} {K : cr_K} {τ : Nat → Nat} {I : cr_I} {x1 : Int32} {x2 : Int32} {x3 : Int32} {x4 : Int32} {x5 : Int32} {x6 : Int32} {x7 : Int32} (hτ : cr_tau τ)  (h : cr_Ok yX9_coins cX9_coins 10 (some .int) (cr_rm0 2 49) K 247 247 Γ) (hyp : (x2 ≤ x7 → (p_yX9_shareOf τ x1 x2 I ∧ p_yX9_cut τ (f_yX9_shareOf τ x1 x2 I) x3 I ∧ K (some (.int ((f_yX9_cut τ (f_yX9_shareOf τ x1 x2 I) x3 I) + (if x4 ≤ x5 then (0 : Int32) else (1 : Int32))))) I (cr_rf τ))) ∧ (¬ x2 ≤ x7 → (p_yX9_shareOf τ x7 x2 I ∧ (∀ v4 : Int32, v4 = (f_yX9_shareOf τ x7 x2 I) → (p_yX9_cut τ v4 x3 I ∧ (∀ v5 : Int32, v5 = (v4 - (x3 * (f_yX9_cut τ v4 x3 I))) → (p_yX9_cut τ v4 x3 I ∧ (∀ v6 : Int32, v6 = (x4 - (f_yX9_cut τ v4 x3 I)) → (∀ v7 : Int32, v7 = (x5 + (if x6 < v5 then (1 : Int32) else (if v5 = x6 then (if x1 ≤ x7 then (0 : Int32) else (1 : Int32)) else (0 : Int32)))) → (∀ v8 : Int32, v8 = x7 + (1 : Int32) → cr_V Γ 43 [.ref 200, .int x1, .int x2, .int x3, .int v6, .int v7, .int x6, .int v8, .null, .null] [] I (cr_rf τ) 247)))))))))) : cr_V Γ 43 [.ref 200, .int x1, .int x2, .int x3, .int x4, .int x5, .int x6, .int x7, .null, .null] [] I (cr_rf τ) 247 := by
  refine cr_iload h rfl dX9_coins_43 ?_
  refine cr_iload_n h (j := 2) rfl rfl dX9_coins_45 ?_
  refine cr_icmp_ge h (tgt := 118) (by decide) dX9_coins_46 (fun c1 => ?_) (fun c1 => ?_)
  · have hyp := hyp.1 c1
    refine cr_aload_n h (j := 0) rfl rfl dX9_coins_118 ?_
    refine cr_iload_n h (j := 1) rfl rfl dX9_coins_119 ?_
    refine cr_iload_n h (j := 2) rfl rfl dX9_coins_120 ?_
    refine cr_callV h (c0 := 9) (T0 := TX9) C_yX9_shareOf cZ_yX9_shareOf wm_X9_364 wv_yX9_shareOf we_yX9_shareOf (by decide) rfl rfl (cr_rmS (by decide) (by decide)) (As := [.int x1, .int x2]) rfl (Nat.le_of_ble_eq_true rfl) dX9_coins_121 ⟨τ, x1, x2, rfl, hτ, rfl, hyp.1, ?_⟩
    have hyp := hyp.2
    show cr_V Γ 124 [.ref 200, .int x1, .int x2, .int x3, .int x4, .int x5, .int x6, .int x7, .null, .null] [.int (f_yX9_shareOf τ x1 x2 I)] I (cr_rf τ) 247
    refine cr_iload_n h (j := 3) rfl rfl dX9_coins_124 ?_
    refine cr_callS h C_yX9_cut cZ_yX9_cut wm_X9_367 ws_yX9_cut (cr_rmS (by decide) (by decide)) (As := [.int (f_yX9_shareOf τ x1 x2 I), .int x3]) rfl (Nat.le_of_ble_eq_true rfl) dX9_coins_125 ⟨τ, (f_yX9_shareOf τ x1 x2 I), x3, rfl, hτ, rfl, hyp.1, ?_⟩
    have hyp := hyp.2
    show cr_V Γ 128 [.ref 200, .int x1, .int x2, .int x3, .int x4, .int x5, .int x6, .int x7, .null, .null] [.int (f_yX9_cut τ (f_yX9_shareOf τ x1 x2 I) x3 I)] I (cr_rf τ) 247
    refine cr_iload h rfl dX9_coins_128 ?_
    refine cr_iload h rfl dX9_coins_130 ?_
    have J1 : cr_V Γ 140 [.ref 200, .int x1, .int x2, .int x3, .int x4, .int x5, .int x6, .int x7, .null, .null] [.int (if x4 ≤ x5 then (0 : Int32) else (1 : Int32)), .int (f_yX9_cut τ (f_yX9_shareOf τ x1 x2 I) x3 I)] I (cr_rf τ) 247 := by
      refine cr_iadd h dX9_coins_140 ?_
      refine cr_iret h rfl rfl rfl dX9_coins_141 ?_
      exact hyp
    refine cr_icmp_ge h (tgt := 139) (by decide) dX9_coins_132 (fun c2 => ?_) (fun c2 => ?_)
    · refine cr_iconst h (v := (0 : Int32)) (by decide) dX9_coins_139 ?_
      exact cr_ite (by rw [if_pos c2]) J1
    · refine cr_iconst h (v := (1 : Int32)) (by decide) dX9_coins_135 ?_
      refine cr_goto h (tgt := 140) (by decide) dX9_coins_136 ?_
      exact cr_ite (by rw [if_neg c2]) J1
  · have hyp := hyp.2 c1
    refine cr_aload_n h (j := 0) rfl rfl dX9_coins_49 ?_
    refine cr_iload h rfl dX9_coins_50 ?_
    refine cr_iload_n h (j := 2) rfl rfl dX9_coins_52 ?_
    refine cr_callV h (c0 := 9) (T0 := TX9) C_yX9_shareOf cZ_yX9_shareOf wm_X9_364 wv_yX9_shareOf we_yX9_shareOf (by decide) rfl rfl (cr_rmS (by decide) (by decide)) (As := [.int x7, .int x2]) rfl (Nat.le_of_ble_eq_true rfl) dX9_coins_53 ⟨τ, x7, x2, rfl, hτ, rfl, hyp.1, ?_⟩
    have hyp := hyp.2
    show cr_V Γ 56 [.ref 200, .int x1, .int x2, .int x3, .int x4, .int x5, .int x6, .int x7, .null, .null] [.int (f_yX9_shareOf τ x7 x2 I)] I (cr_rf τ) 247
    refine cs_i h 8 (by decide) rfl dX9_coins_56 (fun v4 ev4 => ?_)
    have hyp := hyp v4 ev4
    show cr_V Γ 58 [.ref 200, .int x1, .int x2, .int x3, .int x4, .int x5, .int x6, .int x7, .int v4, .null] [] I (cr_rf τ) 247
    refine cr_iload h rfl dX9_coins_58 ?_
    refine cr_iload_n h (j := 3) rfl rfl dX9_coins_60 ?_
    refine cr_iload h rfl dX9_coins_61 ?_
    refine cr_iload_n h (j := 3) rfl rfl dX9_coins_63 ?_
    refine cr_callS h C_yX9_cut cZ_yX9_cut wm_X9_367 ws_yX9_cut (cr_rmS (by decide) (by decide)) (As := [.int v4, .int x3]) rfl (Nat.le_of_ble_eq_true rfl) dX9_coins_64 ⟨τ, v4, x3, rfl, hτ, rfl, hyp.1, ?_⟩
    have hyp := hyp.2
    show cr_V Γ 67 [.ref 200, .int x1, .int x2, .int x3, .int x4, .int x5, .int x6, .int x7, .int v4, .null] [.int (f_yX9_cut τ v4 x3 I), .int x3, .int v4] I (cr_rf τ) 247
    refine cr_imul h dX9_coins_67 ?_
    refine cr_isub h dX9_coins_68 ?_
    refine cs_i h 9 (by decide) rfl dX9_coins_69 (fun v5 ev5 => ?_)
    have hyp := hyp v5 ev5
    show cr_V Γ 71 [.ref 200, .int x1, .int x2, .int x3, .int x4, .int x5, .int x6, .int x7, .int v4, .int v5] [] I (cr_rf τ) 247
    refine cr_iload h rfl dX9_coins_71 ?_
    refine cr_iload h rfl dX9_coins_73 ?_
    refine cr_iload_n h (j := 3) rfl rfl dX9_coins_75 ?_
    refine cr_callS h C_yX9_cut cZ_yX9_cut wm_X9_367 ws_yX9_cut (cr_rmS (by decide) (by decide)) (As := [.int v4, .int x3]) rfl (Nat.le_of_ble_eq_true rfl) dX9_coins_76 ⟨τ, v4, x3, rfl, hτ, rfl, hyp.1, ?_⟩
    have hyp := hyp.2
    show cr_V Γ 79 [.ref 200, .int x1, .int x2, .int x3, .int x4, .int x5, .int x6, .int x7, .int v4, .int v5] [.int (f_yX9_cut τ v4 x3 I), .int x4] I (cr_rf τ) 247
    refine cr_isub h dX9_coins_79 ?_
    refine cs_i h 4 (by decide) rfl dX9_coins_80 (fun v6 ev6 => ?_)
    have hyp := hyp v6 ev6
    show cr_V Γ 82 [.ref 200, .int x1, .int x2, .int x3, .int v6, .int x5, .int x6, .int x7, .int v4, .int v5] [] I (cr_rf τ) 247
    refine cr_iload h rfl dX9_coins_82 ?_
    refine cr_iload h rfl dX9_coins_84 ?_
    refine cr_iload h rfl dX9_coins_86 ?_
    have J2 : cr_V Γ 109 [.ref 200, .int x1, .int x2, .int x3, .int v6, .int x5, .int x6, .int x7, .int v4, .int v5] [.int (if x6 < v5 then (1 : Int32) else (if v5 = x6 then (if x1 ≤ x7 then (0 : Int32) else (1 : Int32)) else (0 : Int32))), .int x5] I (cr_rf τ) 247 := by
      refine cr_iadd h dX9_coins_109 ?_
      refine cs_i h 5 (by decide) rfl dX9_coins_110 (fun v7 ev7 => ?_)
      have hyp := hyp v7 ev7
      show cr_V Γ 112 [.ref 200, .int x1, .int x2, .int x3, .int v6, .int v7, .int x6, .int x7, .int v4, .int v5] [] I (cr_rf τ) 247
      refine cs_inc h (v := (1 : Int32)) 7 rfl (by decide) (by decide) rfl dX9_coins_112 (fun v8 ev8 => ?_)
      have hyp := hyp v8 ev8
      show cr_V Γ 115 [.ref 200, .int x1, .int x2, .int x3, .int v6, .int v7, .int x6, .int v8, .int v4, .int v5] [] I (cr_rf τ) 247
      refine cr_goto h (tgt := 43) (by decide) dX9_coins_115 ?_
      exact cr_weak [true, true, true, true, true, true, true, true, false, false] hyp
    refine cr_icmp_gt h (tgt := 104) (by decide) dX9_coins_88 (fun c3 => ?_) (fun c3 => ?_)
    · refine cr_iconst h (v := (1 : Int32)) (by decide) dX9_coins_104 ?_
      refine cr_goto h (tgt := 109) (by decide) dX9_coins_105 ?_
      exact cr_ite (by rw [if_pos c3]) J2
    · refine cr_iload h rfl dX9_coins_91 ?_
      refine cr_iload h rfl dX9_coins_93 ?_
      refine cr_icmp_ne h (tgt := 108) (by decide) dX9_coins_95 (fun c4 => ?_) (fun c4 => ?_)
      · refine cr_iconst h (v := (0 : Int32)) (by decide) dX9_coins_108 ?_
        exact cr_ite (by rw [if_neg c3, if_neg c4]) J2
      · refine cr_iload h rfl dX9_coins_98 ?_
        refine cr_iload_n h (j := 1) rfl rfl dX9_coins_100 ?_
        refine cr_icmp_ge h (tgt := 108) (by decide) dX9_coins_101 (fun c5 => ?_) (fun c5 => ?_)
        · refine cr_iconst h (v := (0 : Int32)) (by decide) dX9_coins_108 ?_
          exact cr_ite (by rw [if_neg c3, if_pos c4, if_pos c5]) J2
        · refine cr_iconst h (v := (1 : Int32)) (by decide) dX9_coins_104 ?_
          refine cr_goto h (tgt := 109) (by decide) dX9_coins_105 ?_
          exact cr_ite (by rw [if_neg c3, if_pos c4, if_neg c5]) J2
abbrev T_yX9_coins : cr_T := fun vs I R K => ∃ (τ : Nat → Nat) (x1 : Int32) (x2 : Int32), R = cr_rf τ ∧ cr_tau τ ∧ vs = [.ref 200, .int x1, .int x2] ∧ p_yX9_coins τ x1 x2 I ∧ K (some (.int (f_yX9_coins τ x1 x2 I))) I (cr_rf τ)
abbrev S_yX9_coins : Prop := cr_C yX9_coins cX9_coins 10 (some .int) (cr_rm0 2 49) 247 247 T_yX9_coins
theorem G_yX9_coins (H : ∀ (Γ : cr_G) (K : cr_K) (τ : Nat → Nat) (x1 : Int32) (x2 : Int32) (I : cr_I), cr_tau τ → cr_Ok yX9_coins cX9_coins 10 (some .int) (cr_rm0 2 49) K 247 247 Γ → p_yX9_coins τ x1 x2 I → K (some (.int (f_yX9_coins τ x1 x2 I))) I (cr_rf τ) → cr_V Γ 0 [.ref 200, .int x1, .int x2, .null, .null, .null, .null, .null, .null, .null] [] I (cr_rf τ) 247) : cr_C yX9_coins cX9_coins 10 (some .int) (cr_rm0 2 49) 247 247 T_yX9_coins := by
  refine cr_C.of (by decide +kernel) (fun vs I R K hT => ?_) (fun Γ K h vs I R hT => ?_)
  · obtain ⟨τ, x1, x2, rfl, hτ, rfl, hp, hK⟩ := hT
    exact Nat.le_of_ble_eq_true rfl
  · obtain ⟨τ, x1, x2, rfl, hτ, rfl, hp, hK⟩ := hT
    exact H Γ K τ x1 x2 I hτ h hp hK
theorem cr_cutp {τ : Nat → Nat} {x y : Int32} {I : cr_I} (h : ¬ y = 0) : p_yX9_cut τ x y I := ⟨fun _ => ⟨h, trivial⟩, fun _ => ⟨h, trivial⟩⟩
theorem C_yX9_coins : cr_C yX9_coins cX9_coins 10 (some .int) (cr_rm0 2 49) 247 247 T_yX9_coins := G_yX9_coins (by
  intro Γ K τ x1 x2 I hτ h hp hK
  obtain ⟨h1, h2, h3⟩ := hp
  obtain ⟨eP, hP⟩ := cr_ofI (x := x1) (B := 6) h1 (by omega)
  obtain ⟨eN, hN⟩ := cr_ofI (x := x2) (B := 6) (by omega) h3
  have hpn : x1.toNatClampNeg < x2.toNatClampNeg := by
    show x1.toInt.toNat < x2.toInt.toNat
    omega
  unfold f_yX9_coins at hK
  have hsh : ∀ q, q < x2.toNatClampNeg → p_yX9_shareOf τ (nI q) x2 I ∧ f_yX9_shareOf τ (nI q) x2 I = cr_sumS (fun p a => I 226 (6 * p + a)) q x2.toNatClampNeg (2 ^ x2.toNatClampNeg) := by
    intro q hq
    have : x2.toInt = x2.toNatClampNeg := by
      show x2.toInt = ((x2.toInt.toNat : Nat) : Int)
      omega
    refine ⟨⟨?_, ?_, h3⟩, ?_⟩
    · rw [cr_nt (by omega)]; omega
    · rw [cr_nt (by omega)]; omega
    · unfold f_yX9_shareOf
      rw [cr_nc (by omega)]
  generalize hsum : (fun q => cr_sumS (fun p a => I 226 (6 * p + a)) q x2.toNatClampNeg (2 ^ x2.toNatClampNeg)) = sh at hK
  have hsh' : ∀ q, q < x2.toNatClampNeg → p_yX9_shareOf τ (nI q) x2 I ∧ f_yX9_shareOf τ (nI q) x2 I = sh q := fun q hq => by rw [← hsum]; exact hsh q hq
  generalize hrest : (cr_spS (fun p a => I 226 (6 * p + a)) (((1 : Int32) <<< (x2 &&& 31)) - 1) 6).1 = rest0 at hK
  have hall := cr_tab0 x2.toNatClampNeg (by omega)
  have ed : ∀ v, f_yX9_cut τ v (cr_tab 0 x2.toNatClampNeg) I = (fun v => f_yX9_cut τ v (cr_tab 0 x2.toNatClampNeg) I) v := fun v => rfl
  have em : ∀ v, v - cr_tab 0 x2.toNatClampNeg * f_yX9_cut τ v (cr_tab 0 x2.toNatClampNeg) I = (fun v => v - cr_tab 0 x2.toNatClampNeg * f_yX9_cut τ v (cr_tab 0 x2.toNatClampNeg) I) v := fun v => rfl
  generalize (fun v => v - cr_tab 0 x2.toNatClampNeg * f_yX9_cut τ v (cr_tab 0 x2.toNatClampNeg) I) = md at hK em
  generalize (fun v => f_yX9_cut τ v (cr_tab 0 x2.toNatClampNeg) I) = dv at hK ed
  have hfac : p_yX9_factorial τ x2 I ∧ f_yX9_factorial τ x2 I = cr_tab 0 x2.toNatClampNeg := ⟨⟨by omega, h3⟩, rfl⟩
  generalize hA : cr_tab 0 x2.toNatClampNeg = all at *
  have es : f_yX9_shareOf τ x1 x2 I = sh x1.toNatClampNeg := by
    have := (hsh' x1.toNatClampNeg hpn).2
    rw [← eP] at this
    exact this
  have ps : p_yX9_shareOf τ x1 x2 I := ⟨h1, h2, h3⟩
  refine bk_yX9_coins_0 hτ h ⟨hfac.1, ?_⟩
  rw [hfac.2]
  rintro v1 rfl
  refine ⟨trivial, ?_⟩
  unfold f_yX9_sparedIn
  rw [hrest]
  rintro v2 rfl
  refine ⟨ps, ps, cr_cutp hall, ?_⟩
  rw [es, em]
  rintro v3 rfl
  refine cr_loop (fun q => cr_V Γ 43 [.ref 200, .int x1, .int x2, .int v1, .int (cr_coinS dv md sh v2 (md (sh x1.toNatClampNeg)) x1.toNatClampNeg q).1, .int (cr_coinS dv md sh v2 (md (sh x1.toNatClampNeg)) x1.toNatClampNeg q).2, .int (md (sh x1.toNatClampNeg)), .int (nI q), .null, .null] [] I (cr_rf τ) 247) x2.toNatClampNeg ?_ ?_ 0 (Nat.zero_le _)
  · refine bk_yX9_coins_43 hτ h ⟨fun _ => ⟨ps, cr_cutp hall, ?_⟩, fun c => absurd ?_ c⟩
    · rw [es, ed]
      exact hK
    · rw [← eN]; exact Int32.le_refl _
  · intro q hq ih
    obtain ⟨pq, eq⟩ := hsh' q hq
    rw [cr_coinS] at ih
    refine bk_yX9_coins_43 hτ h ⟨fun c => absurd c ?_, fun _ => ⟨pq, ?_⟩⟩
    · rw [eN]; exact cr_nle hq (by omega)
    · rw [eq]
      rintro v5 rfl
      refine ⟨cr_cutp hall, ?_⟩
      rw [em]
      rintro v6 rfl
      refine ⟨cr_cutp hall, ?_⟩
      rw [ed]
      rintro v7 rfl
      have hle : x1 ≤ nI q ↔ x1.toNatClampNeg ≤ q := by
        rw [eP]
        rw [cr_nc (by omega)]
        exact nI_leI (by omega) (by omega)
      rintro v8 rfl v9 rfl
      rw [nI_1]
      have e : (if md (sh x1.toNatClampNeg) < md (sh q) then (1 : Int32) else if md (sh q) = md (sh x1.toNatClampNeg) then if x1 ≤ nI q then 0 else 1 else 0) = (if md (sh x1.toNatClampNeg) < md (sh q) ∨ (md (sh q) = md (sh x1.toNatClampNeg) ∧ q < x1.toNatClampNeg) then 1 else 0) := by
        by_cases c : md (sh x1.toNatClampNeg) < md (sh q)
        · rw [if_pos c, if_pos (Or.inl c)]
        · rw [if_neg c]
          by_cases c2 : md (sh q) = md (sh x1.toNatClampNeg)
          · rw [if_pos c2]
            by_cases c3 : x1 ≤ nI q
            · rw [if_pos c3, if_neg (fun z => z.elim c (fun z => by have := hle.mp c3; omega))]
            · rw [if_neg c3, if_pos (Or.inr ⟨c2, Nat.not_le.mp (fun z => c3 (hle.mpr z))⟩)]
          · rw [if_neg c2, if_neg (fun z => z.elim c (fun z => c2 z.1))]
      rw [e]
      exact ih)
def t_yX8_together (τ : Nat → Nat) (x1 : Int32) (I : cr_I) (Q : Int32 → cr_I → Prop) : Prop := ((f_yX8_isOutside τ x1 (0 : Int32) (63 : Int32) I) = 0 → (p_yX5_sparedOf τ x1 I ∧ Q (f_yX5_sparedOf τ x1 I) I)) ∧ (¬ (f_yX8_isOutside τ x1 (0 : Int32) (63 : Int32) I) = 0 → Q (-3 : Int32) I)
abbrev T_yX8_together : cr_T := fun vs I R K => ∃ (τ : Nat → Nat) (x1 : Int32) (Q : Int32 → cr_I → Prop), R = cr_rf τ ∧ cr_tau τ ∧ vs = [.ref 0, .int x1] ∧ t_yX8_together τ x1 I Q ∧ ∀ r J, Q r J → K (some (.int r)) J (cr_rf τ)
theorem C_yX8_together : cr_C yX8_together cX8_together 2 (some .int) (cr_rm0 1 24) 247 247 T_yX8_together := by
  refine cr_C.of (by decide +kernel) (fun vs I R K hT => ?_) (fun Γ K h vs I R hT => ?_)
  · obtain ⟨τ, x1, Q, rfl, hτ, rfl, hyp, hK⟩ := hT
    exact Nat.le_of_ble_eq_true rfl
  · obtain ⟨τ, x1, Q, rfl, hτ, rfl, hyp, hK⟩ := hT
    unfold t_yX8_together at hyp
    show cr_V Γ 0 [.ref 0, .int x1] [] I (cr_rf τ) 247
    refine cr_iload_n h (j := 1) rfl rfl dX8_together_0 ?_
    refine cr_iconst h (v := (0 : Int32)) (by decide) dX8_together_1 ?_
    refine cr_bipush h (v := (63 : Int32)) (by decide) dX8_together_2 ?_
    refine cr_callS h C_yX8_isOutside cZ_yX8_isOutside wm_X8_55 ws_yX8_isOutside (cr_rmS (by decide) (by decide)) (As := [.int x1, .int (0 : Int32), .int (63 : Int32)]) rfl (Nat.le_of_ble_eq_true rfl) dX8_together_4 ⟨τ, x1, (0 : Int32), (63 : Int32), rfl, hτ, rfl, ?_⟩
    show cr_V Γ 7 [.ref 0, .int x1] [.int (f_yX8_isOutside τ x1 (0 : Int32) (63 : Int32) I)] I (cr_rf τ) 247
    refine cr_if_eq h (tgt := 13) (by decide) dX8_together_7 (fun c1 => ?_) (fun c1 => ?_)
    · have hyp := hyp.1 c1
      refine cr_aload_n h (j := 0) rfl rfl dX8_together_13 ?_
      refine cr_getR h (k := 4) cr_clsX8 (by decide) rfl rfl wf_X8_40 (by decide) rfl rfl dX8_together_14 ?_
      refine cr_iload_n h (j := 1) rfl rfl dX8_together_17 ?_
      refine cr_callV h (c0 := 5) (T0 := TX5) C_yX5_sparedOf cZ_yX5_sparedOf wm_X8_264 wv_yX5_sparedOf we_yX5_sparedOf (by decide) rfl rfl (cr_rmS (by decide) (by decide)) (As := [.int x1]) rfl (Nat.le_of_ble_eq_true rfl) dX8_together_18 ⟨τ, x1, rfl, hτ, rfl, hyp.1, ?_⟩
      have hyp := hyp.2
      show cr_V Γ 21 [.ref 0, .int x1] [.int (f_yX5_sparedOf τ x1 I)] I (cr_rf τ) 247
      refine cr_iret h rfl rfl rfl dX8_together_21 ?_
      exact hK _ _ hyp
    · have hyp := hyp.2 c1
      refine cr_bipush h (v := (-3 : Int32)) (by decide) dX8_together_10 ?_
      refine cr_iret h rfl rfl rfl dX8_together_12 ?_
      exact hK _ _ hyp
def t_yX8_share (τ : Nat → Nat) (x1 : Int32) (x2 : Int32) (x3 : Int32) (I : cr_I) (Q : Int32 → cr_I → Prop) : Prop := ((f_yX8_isNoPerson τ x1 I) = 0 → (((f_yX8_isOutside τ x2 (1 : Int32) (6 : Int32) I) = 0 → ((x1 < x2 → (((x3.toInt < 0 ∨ 2 < x3.toInt) → Q (-3 : Int32) I) ∧ (x3 = Int32.ofNat 0 → (p_yX5_above τ x1 x2 I ∧ Q (f_yX5_above τ x1 x2 I) I)) ∧ (x3 = Int32.ofNat 1 → (p_yX5_below τ x1 x2 I ∧ Q (f_yX5_below τ x1 x2 I) I)) ∧ (x3 = Int32.ofNat 2 → (p_yX5_coins τ x1 x2 I ∧ Q (f_yX5_coins τ x1 x2 I) I)))) ∧ (¬ x1 < x2 → Q (-2 : Int32) I))) ∧ (¬ (f_yX8_isOutside τ x2 (1 : Int32) (6 : Int32) I) = 0 → Q (-3 : Int32) I))) ∧ (¬ (f_yX8_isNoPerson τ x1 I) = 0 → Q (-2 : Int32) I)
abbrev T_yX8_share : cr_T := fun vs I R K => ∃ (τ : Nat → Nat) (x1 : Int32) (x2 : Int32) (x3 : Int32) (Q : Int32 → cr_I → Prop), R = cr_rf τ ∧ cr_tau τ ∧ vs = [.ref 0, .int x1, .int x2, .int x3] ∧ t_yX8_share τ x1 x2 x3 I Q ∧ ∀ r J, Q r J → K (some (.int r)) J (cr_rf τ)
theorem C_yX8_share : cr_C yX8_share cX8_share 4 (some .int) (cr_rm0 3 79) 247 247 T_yX8_share := by
  refine cr_C.of (by decide +kernel) (fun vs I R K hT => ?_) (fun Γ K h vs I R hT => ?_)
  · obtain ⟨τ, x1, x2, x3, Q, rfl, hτ, rfl, hyp, hK⟩ := hT
    exact Nat.le_of_ble_eq_true rfl
  · obtain ⟨τ, x1, x2, x3, Q, rfl, hτ, rfl, hyp, hK⟩ := hT
    unfold t_yX8_share at hyp
    show cr_V Γ 0 [.ref 0, .int x1, .int x2, .int x3] [] I (cr_rf τ) 247
    refine cr_iload_n h (j := 1) rfl rfl dX8_share_0 ?_
    refine cr_callS h C_yX8_isNoPerson cZ_yX8_isNoPerson wm_X8_258 ws_yX8_isNoPerson (cr_rmS (by decide) (by decide)) (As := [.int x1]) rfl (Nat.le_of_ble_eq_true rfl) dX8_share_1 ⟨τ, x1, rfl, hτ, rfl, ?_⟩
    show cr_V Γ 4 [.ref 0, .int x1, .int x2, .int x3] [.int (f_yX8_isNoPerson τ x1 I)] I (cr_rf τ) 247
    refine cr_if_eq h (tgt := 10) (by decide) dX8_share_4 (fun c1 => ?_) (fun c1 => ?_)
    · have hyp := hyp.1 c1
      refine cr_iload_n h (j := 2) rfl rfl dX8_share_10 ?_
      refine cr_iconst h (v := (1 : Int32)) (by decide) dX8_share_11 ?_
      refine cr_bipush h (v := (6 : Int32)) (by decide) dX8_share_12 ?_
      refine cr_callS h C_yX8_isOutside cZ_yX8_isOutside wm_X8_55 ws_yX8_isOutside (cr_rmS (by decide) (by decide)) (As := [.int x2, .int (1 : Int32), .int (6 : Int32)]) rfl (Nat.le_of_ble_eq_true rfl) dX8_share_14 ⟨τ, x2, (1 : Int32), (6 : Int32), rfl, hτ, rfl, ?_⟩
      show cr_V Γ 17 [.ref 0, .int x1, .int x2, .int x3] [.int (f_yX8_isOutside τ x2 (1 : Int32) (6 : Int32) I)] I (cr_rf τ) 247
      refine cr_if_eq h (tgt := 23) (by decide) dX8_share_17 (fun c2 => ?_) (fun c2 => ?_)
      · have hyp := hyp.1 c2
        refine cr_iload_n h (j := 1) rfl rfl dX8_share_23 ?_
        refine cr_iload_n h (j := 2) rfl rfl dX8_share_24 ?_
        refine cr_icmp_lt h (tgt := 31) (by decide) dX8_share_25 (fun c3 => ?_) (fun c3 => ?_)
        · have hyp := hyp.1 c3
          refine cr_iload_n h (j := 3) rfl rfl dX8_share_31 ?_
          refine cs_sw h [60, 70, 80] (by decide) (by decide) (dt := 90) (by decide) (by decide) dX8_share_32 (fun c4 => ?_) (fun jc4 hjc4 c4 => ?_)
          · have hyp := hyp.1 c4
            refine cr_bipush h (v := (-3 : Int32)) (by decide) dX8_share_90 ?_
            refine cr_iret h rfl rfl rfl dX8_share_92 ?_
            exact hK _ _ hyp
          · rcases (show jc4 = 0 ∨ jc4 = 1 ∨ jc4 = 2 by have : jc4 < 3 := hjc4; omega) with rfl | rfl | rfl
            · have hyp := hyp.2.1 c4
              refine cr_aload_n h (j := 0) rfl rfl dX8_share_60 ?_
              refine cr_getR h (k := 4) cr_clsX8 (by decide) rfl rfl wf_X8_40 (by decide) rfl rfl dX8_share_61 ?_
              refine cr_iload_n h (j := 1) rfl rfl dX8_share_64 ?_
              refine cr_iload_n h (j := 2) rfl rfl dX8_share_65 ?_
              refine cr_callV h (c0 := 5) (T0 := TX5) C_yX5_above cZ_yX5_above wm_X8_267 wv_yX5_above we_yX5_above (by decide) rfl rfl (cr_rmS (by decide) (by decide)) (As := [.int x1, .int x2]) rfl (Nat.le_of_ble_eq_true rfl) dX8_share_66 ⟨τ, x1, x2, rfl, hτ, rfl, hyp.1, ?_⟩
              have hyp := hyp.2
              show cr_V Γ 69 [.ref 0, .int x1, .int x2, .int x3] [.int (f_yX5_above τ x1 x2 I)] I (cr_rf τ) 247
              refine cr_iret h rfl rfl rfl dX8_share_69 ?_
              exact hK _ _ hyp
            · have hyp := hyp.2.2.1 c4
              refine cr_aload_n h (j := 0) rfl rfl dX8_share_70 ?_
              refine cr_getR h (k := 4) cr_clsX8 (by decide) rfl rfl wf_X8_40 (by decide) rfl rfl dX8_share_71 ?_
              refine cr_iload_n h (j := 1) rfl rfl dX8_share_74 ?_
              refine cr_iload_n h (j := 2) rfl rfl dX8_share_75 ?_
              refine cr_callV h (c0 := 5) (T0 := TX5) C_yX5_below cZ_yX5_below wm_X8_270 wv_yX5_below we_yX5_below (by decide) rfl rfl (cr_rmS (by decide) (by decide)) (As := [.int x1, .int x2]) rfl (Nat.le_of_ble_eq_true rfl) dX8_share_76 ⟨τ, x1, x2, rfl, hτ, rfl, hyp.1, ?_⟩
              have hyp := hyp.2
              show cr_V Γ 79 [.ref 0, .int x1, .int x2, .int x3] [.int (f_yX5_below τ x1 x2 I)] I (cr_rf τ) 247
              refine cr_iret h rfl rfl rfl dX8_share_79 ?_
              exact hK _ _ hyp
            · have hyp := hyp.2.2.2 c4
              refine cr_aload_n h (j := 0) rfl rfl dX8_share_80 ?_
              refine cr_getR h (k := 4) cr_clsX8 (by decide) rfl rfl wf_X8_40 (by decide) rfl rfl dX8_share_81 ?_
              refine cr_iload_n h (j := 1) rfl rfl dX8_share_84 ?_
              refine cr_iload_n h (j := 2) rfl rfl dX8_share_85 ?_
              refine cr_callV h (c0 := 5) (T0 := TX5) C_yX5_coins cZ_yX5_coins wm_X8_273 wv_yX5_coins we_yX5_coins (by decide) rfl rfl (cr_rmS (by decide) (by decide)) (As := [.int x1, .int x2]) rfl (Nat.le_of_ble_eq_true rfl) dX8_share_86 ⟨τ, x1, x2, rfl, hτ, rfl, hyp.1, ?_⟩
              have hyp := hyp.2
              show cr_V Γ 89 [.ref 0, .int x1, .int x2, .int x3] [.int (f_yX5_coins τ x1 x2 I)] I (cr_rf τ) 247
              refine cr_iret h rfl rfl rfl dX8_share_89 ?_
              exact hK _ _ hyp
        · have hyp := hyp.2 c3
          refine cr_bipush h (v := (-2 : Int32)) (by decide) dX8_share_28 ?_
          refine cr_iret h rfl rfl rfl dX8_share_30 ?_
          exact hK _ _ hyp
      · have hyp := hyp.2 c2
        refine cr_bipush h (v := (-3 : Int32)) (by decide) dX8_share_20 ?_
        refine cr_iret h rfl rfl rfl dX8_share_22 ?_
        exact hK _ _ hyp
    · have hyp := hyp.2 c1
      refine cr_bipush h (v := (-2 : Int32)) (by decide) dX8_share_7 ?_
      refine cr_iret h rfl rfl rfl dX8_share_9 ?_
      exact hK _ _ hyp
def t_yX9_together (τ : Nat → Nat) (x1 : Int32) (I : cr_I) (Q : Int32 → cr_I → Prop) : Prop := ((f_yX9_in τ x1.toInt64 (0 : Int64) (63 : Int64) I) = 0 → Q (-3 : Int32) I) ∧ (¬ (f_yX9_in τ x1.toInt64 (0 : Int64) (63 : Int64) I) = 0 → (p_yX9_sparedIn τ x1 I ∧ Q (f_yX9_sparedIn τ x1 I) I))
abbrev T_yX9_together : cr_T := fun vs I R K => ∃ (τ : Nat → Nat) (x1 : Int32) (Q : Int32 → cr_I → Prop), R = cr_rf τ ∧ cr_tau τ ∧ vs = [.ref 200, .int x1] ∧ t_yX9_together τ x1 I Q ∧ ∀ r J, Q r J → K (some (.int r)) J (cr_rf τ)
theorem C_yX9_together : cr_C yX9_together cX9_together 2 (some .int) (cr_rm0 1 25) 247 247 T_yX9_together := by
  refine cr_C.of (by decide +kernel) (fun vs I R K hT => ?_) (fun Γ K h vs I R hT => ?_)
  · obtain ⟨τ, x1, Q, rfl, hτ, rfl, hyp, hK⟩ := hT
    exact Nat.le_of_ble_eq_true rfl
  · obtain ⟨τ, x1, Q, rfl, hτ, rfl, hyp, hK⟩ := hT
    unfold t_yX9_together at hyp
    show cr_V Γ 0 [.ref 200, .int x1] [] I (cr_rf τ) 247
    refine cr_iload_n h (j := 1) rfl rfl dX9_together_0 ?_
    refine cr_i2l h dX9_together_1 ?_
    refine cr_lconst h (v := (0 : Int64)) (by decide) dX9_together_2 ?_
    refine cr_ldc2 h wc_X9_356 dX9_together_3 ?_
    refine cr_callS h C_yX9_in cZ_yX9_in wm_X9_154 ws_yX9_in (cr_rmS (by decide) (by decide)) (As := [.long x1.toInt64, .long (0 : Int64), .long (63 : Int64)]) rfl (Nat.le_of_ble_eq_true rfl) dX9_together_6 ⟨τ, x1.toInt64, (0 : Int64), (63 : Int64), rfl, hτ, rfl, ?_⟩
    show cr_V Γ 9 [.ref 200, .int x1] [.int (f_yX9_in τ x1.toInt64 (0 : Int64) (63 : Int64) I)] I (cr_rf τ) 247
    refine cr_if_eq h (tgt := 20) (by decide) dX9_together_9 (fun c1 => ?_) (fun c1 => ?_)
    · have hyp := hyp.1 c1
      refine cr_bipush h (v := (-3 : Int32)) (by decide) dX9_together_20 ?_
      refine cr_iret h rfl rfl rfl dX9_together_22 ?_
      exact hK _ _ hyp
    · have hyp := hyp.2 c1
      refine cr_aload_n h (j := 0) rfl rfl dX9_together_12 ?_
      refine cr_iload_n h (j := 1) rfl rfl dX9_together_13 ?_
      refine cr_callV h (c0 := 9) (T0 := TX9) C_yX9_sparedIn cZ_yX9_sparedIn wm_X9_358 wv_yX9_sparedIn we_yX9_sparedIn (by decide) rfl rfl (cr_rmS (by decide) (by decide)) (As := [.int x1]) rfl (Nat.le_of_ble_eq_true rfl) dX9_together_14 ⟨τ, x1, rfl, hτ, rfl, hyp.1, ?_⟩
      have hyp := hyp.2
      show cr_V Γ 17 [.ref 200, .int x1] [.int (f_yX9_sparedIn τ x1 I)] I (cr_rf τ) 247
      refine cr_goto h (tgt := 22) (by decide) dX9_together_17 ?_
      refine cr_iret h rfl rfl rfl dX9_together_22 ?_
      exact hK _ _ hyp
def t_yX9_share (τ : Nat → Nat) (x1 : Int32) (x2 : Int32) (x3 : Int32) (I : cr_I) (Q : Int32 → cr_I → Prop) : Prop := ((f_yX9_in τ x2.toInt64 (1 : Int64) (6 : Int64) I) = 0 → (((f_yX9_in τ x2.toInt64 (1 : Int64) (6 : Int64) I) = 0 → ((¬ (f_yX9_isSix τ x1 I) = 0 → Q (-3 : Int32) I) ∧ ((f_yX9_isSix τ x1 I) = 0 → Q (-2 : Int32) I))) ∧ (¬ (f_yX9_in τ x2.toInt64 (1 : Int64) (6 : Int64) I) = 0 → (((f_yX9_in τ x1.toInt64 (0 : Int64) ((x2 - (1 : Int32)).toInt64) I) = 0 → Q (-2 : Int32) I) ∧ (¬ (f_yX9_in τ x1.toInt64 (0 : Int64) ((x2 - (1 : Int32)).toInt64) I) = 0 → ((¬ (f_yX9_isSix τ x1 I) = 0 → Q (-3 : Int32) I) ∧ ((f_yX9_isSix τ x1 I) = 0 → Q (-2 : Int32) I))))))) ∧ (¬ (f_yX9_in τ x2.toInt64 (1 : Int64) (6 : Int64) I) = 0 → ((¬ (f_yX9_in τ x3.toInt64 (0 : Int64) (2 : Int64) I) = 0 → ((¬ (f_yX9_in τ x1.toInt64 (0 : Int64) ((x2 - (1 : Int32)).toInt64) I) = 0 → ((¬ x3 = (2 : Int32) → (p_yX9_shareOf τ x1 x2 I ∧ (∀ v1 : Int32, v1 = (f_yX9_shareOf τ x1 x2 I) → (p_yX9_factorial τ x2 I ∧ p_yX9_divisor τ v1 (f_yX9_factorial τ x2 I) I ∧ (∀ v2 : Int32, v2 = (f_yX9_divisor τ v1 (f_yX9_factorial τ x2 I) I) → ((¬ x3 = 0 → (p_yX9_factorial τ x2 I ∧ ¬ v2 = 0 ∧ Q ((f_yX9_factorial τ x2 I) / v2) I)) ∧ (x3 = 0 → (¬ v2 = 0 ∧ Q (v1 / v2) I)))))))) ∧ (x3 = (2 : Int32) → (p_yX9_coins τ x1 x2 I ∧ Q (f_yX9_coins τ x1 x2 I) I)))) ∧ ((f_yX9_in τ x1.toInt64 (0 : Int64) ((x2 - (1 : Int32)).toInt64) I) = 0 → Q (-2 : Int32) I))) ∧ ((f_yX9_in τ x3.toInt64 (0 : Int64) (2 : Int64) I) = 0 → (((f_yX9_in τ x2.toInt64 (1 : Int64) (6 : Int64) I) = 0 → ((¬ (f_yX9_isSix τ x1 I) = 0 → Q (-3 : Int32) I) ∧ ((f_yX9_isSix τ x1 I) = 0 → Q (-2 : Int32) I))) ∧ (¬ (f_yX9_in τ x2.toInt64 (1 : Int64) (6 : Int64) I) = 0 → (((f_yX9_in τ x1.toInt64 (0 : Int64) ((x2 - (1 : Int32)).toInt64) I) = 0 → Q (-2 : Int32) I) ∧ (¬ (f_yX9_in τ x1.toInt64 (0 : Int64) ((x2 - (1 : Int32)).toInt64) I) = 0 → ((¬ (f_yX9_isSix τ x1 I) = 0 → Q (-3 : Int32) I) ∧ ((f_yX9_isSix τ x1 I) = 0 → Q (-2 : Int32) I)))))))))
abbrev T_yX9_share : cr_T := fun vs I R K => ∃ (τ : Nat → Nat) (x1 : Int32) (x2 : Int32) (x3 : Int32) (Q : Int32 → cr_I → Prop), R = cr_rf τ ∧ cr_tau τ ∧ vs = [.ref 200, .int x1, .int x2, .int x3] ∧ t_yX9_share τ x1 x2 x3 I Q ∧ ∀ r J, Q r J → K (some (.int r)) J (cr_rf τ)
theorem C_yX9_share : cr_C yX9_share cX9_share 6 (some .int) (cr_rm0 3 78) 247 247 T_yX9_share := by
  refine cr_C.of (by decide +kernel) (fun vs I R K hT => ?_) (fun Γ K h vs I R hT => ?_)
  · obtain ⟨τ, x1, x2, x3, Q, rfl, hτ, rfl, hyp, hK⟩ := hT
    exact Nat.le_of_ble_eq_true rfl
  · obtain ⟨τ, x1, x2, x3, Q, rfl, hτ, rfl, hyp, hK⟩ := hT
    unfold t_yX9_share at hyp
    show cr_V Γ 0 [.ref 200, .int x1, .int x2, .int x3, .null, .null] [] I (cr_rf τ) 247
    refine cr_iload_n h (j := 2) rfl rfl dX9_share_0 ?_
    refine cr_i2l h dX9_share_1 ?_
    refine cr_lconst h (v := (1 : Int64)) (by decide) dX9_share_2 ?_
    refine cr_ldc2 h wc_X9_246 dX9_share_3 ?_
    refine cr_callS h C_yX9_in cZ_yX9_in wm_X9_154 ws_yX9_in (cr_rmS (by decide) (by decide)) (As := [.long x2.toInt64, .long (1 : Int64), .long (6 : Int64)]) rfl (Nat.le_of_ble_eq_true rfl) dX9_share_6 ⟨τ, x2.toInt64, (1 : Int64), (6 : Int64), rfl, hτ, rfl, ?_⟩
    show cr_V Γ 9 [.ref 200, .int x1, .int x2, .int x3, .null, .null] [.int (f_yX9_in τ x2.toInt64 (1 : Int64) (6 : Int64) I)] I (cr_rf τ) 247
    refine cr_if_eq h (tgt := 24) (by decide) dX9_share_9 (fun c1 => ?_) (fun c1 => ?_)
    · have hyp := hyp.1 c1
      refine cr_iload_n h (j := 2) rfl rfl dX9_share_24 ?_
      refine cr_i2l h dX9_share_25 ?_
      refine cr_lconst h (v := (1 : Int64)) (by decide) dX9_share_26 ?_
      refine cr_ldc2 h wc_X9_246 dX9_share_27 ?_
      refine cr_callS h C_yX9_in cZ_yX9_in wm_X9_154 ws_yX9_in (cr_rmS (by decide) (by decide)) (As := [.long x2.toInt64, .long (1 : Int64), .long (6 : Int64)]) rfl (Nat.le_of_ble_eq_true rfl) dX9_share_30 ⟨τ, x2.toInt64, (1 : Int64), (6 : Int64), rfl, hτ, rfl, ?_⟩
      show cr_V Γ 33 [.ref 200, .int x1, .int x2, .int x3, .null, .null] [.int (f_yX9_in τ x2.toInt64 (1 : Int64) (6 : Int64) I)] I (cr_rf τ) 247
      refine cr_if_eq h (tgt := 49) (by decide) dX9_share_33 (fun c2 => ?_) (fun c2 => ?_)
      · have hyp := hyp.1 c2
        refine cr_iload_n h (j := 1) rfl rfl dX9_share_49 ?_
        refine cr_callS h C_yX9_isSix cZ_yX9_isSix wm_X9_353 ws_yX9_isSix (cr_rmS (by decide) (by decide)) (As := [.int x1]) rfl (Nat.le_of_ble_eq_true rfl) dX9_share_50 ⟨τ, x1, rfl, hτ, rfl, ?_⟩
        show cr_V Γ 53 [.ref 200, .int x1, .int x2, .int x3, .null, .null] [.int (f_yX9_isSix τ x1 I)] I (cr_rf τ) 247
        refine cr_if_ne h (tgt := 61) (by decide) dX9_share_53 (fun c3 => ?_) (fun c3 => ?_)
        · have hyp := hyp.1 c3
          refine cr_bipush h (v := (-3 : Int32)) (by decide) dX9_share_61 ?_
          refine cr_iret h rfl rfl rfl dX9_share_63 ?_
          exact hK _ _ hyp
        · have hyp := hyp.2 c3
          refine cr_bipush h (v := (-2 : Int32)) (by decide) dX9_share_56 ?_
          refine cr_goto h (tgt := 63) (by decide) dX9_share_58 ?_
          refine cr_iret h rfl rfl rfl dX9_share_63 ?_
          exact hK _ _ hyp
      · have hyp := hyp.2 c2
        refine cr_iload_n h (j := 1) rfl rfl dX9_share_36 ?_
        refine cr_i2l h dX9_share_37 ?_
        refine cr_lconst h (v := (0 : Int64)) (by decide) dX9_share_38 ?_
        refine cr_iload_n h (j := 2) rfl rfl dX9_share_39 ?_
        refine cr_iconst h (v := (1 : Int32)) (by decide) dX9_share_40 ?_
        refine cr_isub h dX9_share_41 ?_
        refine cr_i2l h dX9_share_42 ?_
        refine cr_callS h C_yX9_in cZ_yX9_in wm_X9_154 ws_yX9_in (cr_rmS (by decide) (by decide)) (As := [.long x1.toInt64, .long (0 : Int64), .long (x2 - (1 : Int32)).toInt64]) rfl (Nat.le_of_ble_eq_true rfl) dX9_share_43 ⟨τ, x1.toInt64, (0 : Int64), (x2 - (1 : Int32)).toInt64, rfl, hτ, rfl, ?_⟩
        show cr_V Γ 46 [.ref 200, .int x1, .int x2, .int x3, .null, .null] [.int (f_yX9_in τ x1.toInt64 (0 : Int64) ((x2 - (1 : Int32)).toInt64) I)] I (cr_rf τ) 247
        refine cr_if_eq h (tgt := 56) (by decide) dX9_share_46 (fun c4 => ?_) (fun c4 => ?_)
        · have hyp := hyp.1 c4
          refine cr_bipush h (v := (-2 : Int32)) (by decide) dX9_share_56 ?_
          refine cr_goto h (tgt := 63) (by decide) dX9_share_58 ?_
          refine cr_iret h rfl rfl rfl dX9_share_63 ?_
          exact hK _ _ hyp
        · have hyp := hyp.2 c4
          refine cr_iload_n h (j := 1) rfl rfl dX9_share_49 ?_
          refine cr_callS h C_yX9_isSix cZ_yX9_isSix wm_X9_353 ws_yX9_isSix (cr_rmS (by decide) (by decide)) (As := [.int x1]) rfl (Nat.le_of_ble_eq_true rfl) dX9_share_50 ⟨τ, x1, rfl, hτ, rfl, ?_⟩
          show cr_V Γ 53 [.ref 200, .int x1, .int x2, .int x3, .null, .null] [.int (f_yX9_isSix τ x1 I)] I (cr_rf τ) 247
          refine cr_if_ne h (tgt := 61) (by decide) dX9_share_53 (fun c5 => ?_) (fun c5 => ?_)
          · have hyp := hyp.1 c5
            refine cr_bipush h (v := (-3 : Int32)) (by decide) dX9_share_61 ?_
            refine cr_iret h rfl rfl rfl dX9_share_63 ?_
            exact hK _ _ hyp
          · have hyp := hyp.2 c5
            refine cr_bipush h (v := (-2 : Int32)) (by decide) dX9_share_56 ?_
            refine cr_goto h (tgt := 63) (by decide) dX9_share_58 ?_
            refine cr_iret h rfl rfl rfl dX9_share_63 ?_
            exact hK _ _ hyp
    · have hyp := hyp.2 c1
      refine cr_iload_n h (j := 3) rfl rfl dX9_share_12 ?_
      refine cr_i2l h dX9_share_13 ?_
      refine cr_lconst h (v := (0 : Int64)) (by decide) dX9_share_14 ?_
      refine cr_ldc2 h wc_X9_329 dX9_share_15 ?_
      refine cr_callS h C_yX9_in cZ_yX9_in wm_X9_154 ws_yX9_in (cr_rmS (by decide) (by decide)) (As := [.long x3.toInt64, .long (0 : Int64), .long (2 : Int64)]) rfl (Nat.le_of_ble_eq_true rfl) dX9_share_18 ⟨τ, x3.toInt64, (0 : Int64), (2 : Int64), rfl, hτ, rfl, ?_⟩
      show cr_V Γ 21 [.ref 200, .int x1, .int x2, .int x3, .null, .null] [.int (f_yX9_in τ x3.toInt64 (0 : Int64) (2 : Int64) I)] I (cr_rf τ) 247
      refine cr_if_ne h (tgt := 64) (by decide) dX9_share_21 (fun c6 => ?_) (fun c6 => ?_)
      · have hyp := hyp.1 c6
        refine cr_iload_n h (j := 1) rfl rfl dX9_share_64 ?_
        refine cr_i2l h dX9_share_65 ?_
        refine cr_lconst h (v := (0 : Int64)) (by decide) dX9_share_66 ?_
        refine cr_iload_n h (j := 2) rfl rfl dX9_share_67 ?_
        refine cr_iconst h (v := (1 : Int32)) (by decide) dX9_share_68 ?_
        refine cr_isub h dX9_share_69 ?_
        refine cr_i2l h dX9_share_70 ?_
        refine cr_callS h C_yX9_in cZ_yX9_in wm_X9_154 ws_yX9_in (cr_rmS (by decide) (by decide)) (As := [.long x1.toInt64, .long (0 : Int64), .long (x2 - (1 : Int32)).toInt64]) rfl (Nat.le_of_ble_eq_true rfl) dX9_share_71 ⟨τ, x1.toInt64, (0 : Int64), (x2 - (1 : Int32)).toInt64, rfl, hτ, rfl, ?_⟩
        show cr_V Γ 74 [.ref 200, .int x1, .int x2, .int x3, .null, .null] [.int (f_yX9_in τ x1.toInt64 (0 : Int64) ((x2 - (1 : Int32)).toInt64) I)] I (cr_rf τ) 247
        refine cr_if_ne h (tgt := 80) (by decide) dX9_share_74 (fun c7 => ?_) (fun c7 => ?_)
        · have hyp := hyp.1 c7
          refine cr_iload_n h (j := 3) rfl rfl dX9_share_80 ?_
          refine cr_iconst h (v := (2 : Int32)) (by decide) dX9_share_81 ?_
          refine cr_icmp_ne h (tgt := 92) (by decide) dX9_share_82 (fun c8 => ?_) (fun c8 => ?_)
          · have hyp := hyp.1 c8
            refine cr_aload_n h (j := 0) rfl rfl dX9_share_92 ?_
            refine cr_iload_n h (j := 1) rfl rfl dX9_share_93 ?_
            refine cr_iload_n h (j := 2) rfl rfl dX9_share_94 ?_
            refine cr_callV h (c0 := 9) (T0 := TX9) C_yX9_shareOf cZ_yX9_shareOf wm_X9_364 wv_yX9_shareOf we_yX9_shareOf (by decide) rfl rfl (cr_rmS (by decide) (by decide)) (As := [.int x1, .int x2]) rfl (Nat.le_of_ble_eq_true rfl) dX9_share_95 ⟨τ, x1, x2, rfl, hτ, rfl, hyp.1, ?_⟩
            have hyp := hyp.2
            show cr_V Γ 98 [.ref 200, .int x1, .int x2, .int x3, .null, .null] [.int (f_yX9_shareOf τ x1 x2 I)] I (cr_rf τ) 247
            refine cs_i h 4 (by decide) rfl dX9_share_98 (fun v1 ev1 => ?_)
            have hyp := hyp v1 ev1
            show cr_V Γ 100 [.ref 200, .int x1, .int x2, .int x3, .int v1, .null] [] I (cr_rf τ) 247
            refine cr_iload h rfl dX9_share_100 ?_
            refine cr_iload_n h (j := 2) rfl rfl dX9_share_102 ?_
            refine cr_callS h C_yX9_factorial cZ_yX9_factorial wm_X9_361 ws_yX9_factorial (cr_rmS (by decide) (by decide)) (As := [.int x2]) rfl (Nat.le_of_ble_eq_true rfl) dX9_share_103 ⟨τ, x2, rfl, hτ, rfl, hyp.1, ?_⟩
            have hyp := hyp.2
            show cr_V Γ 106 [.ref 200, .int x1, .int x2, .int x3, .int v1, .null] [.int (f_yX9_factorial τ x2 I), .int v1] I (cr_rf τ) 247
            refine cr_callS h C_yX9_divisor cZ_yX9_divisor wm_X9_373 ws_yX9_divisor (cr_rmS (by decide) (by decide)) (As := [.int v1, .int (f_yX9_factorial τ x2 I)]) rfl (Nat.le_of_ble_eq_true rfl) dX9_share_106 ⟨τ, v1, (f_yX9_factorial τ x2 I), rfl, hτ, rfl, hyp.1, ?_⟩
            have hyp := hyp.2
            show cr_V Γ 109 [.ref 200, .int x1, .int x2, .int x3, .int v1, .null] [.int (f_yX9_divisor τ v1 (f_yX9_factorial τ x2 I) I)] I (cr_rf τ) 247
            refine cs_i h 5 (by decide) rfl dX9_share_109 (fun v2 ev2 => ?_)
            have hyp := hyp v2 ev2
            show cr_V Γ 111 [.ref 200, .int x1, .int x2, .int x3, .int v1, .int v2] [] I (cr_rf τ) 247
            refine cr_iload_n h (j := 3) rfl rfl dX9_share_111 ?_
            refine cr_if_ne h (tgt := 123) (by decide) dX9_share_112 (fun c9 => ?_) (fun c9 => ?_)
            · have hyp := hyp.1 c9
              refine cr_iload_n h (j := 2) rfl rfl dX9_share_123 ?_
              refine cr_callS h C_yX9_factorial cZ_yX9_factorial wm_X9_361 ws_yX9_factorial (cr_rmS (by decide) (by decide)) (As := [.int x2]) rfl (Nat.le_of_ble_eq_true rfl) dX9_share_124 ⟨τ, x2, rfl, hτ, rfl, hyp.1, ?_⟩
              have hyp := hyp.2
              show cr_V Γ 127 [.ref 200, .int x1, .int x2, .int x3, .int v1, .int v2] [.int (f_yX9_factorial τ x2 I)] I (cr_rf τ) 247
              refine cr_iload h rfl dX9_share_127 ?_
              refine cr_idiv h hyp.1 dX9_share_129 ?_
              have hyp := hyp.2
              refine cr_iret h rfl rfl rfl dX9_share_130 ?_
              exact hK _ _ hyp
            · have hyp := hyp.2 c9
              refine cr_iload h rfl dX9_share_115 ?_
              refine cr_iload h rfl dX9_share_117 ?_
              refine cr_idiv h hyp.1 dX9_share_119 ?_
              have hyp := hyp.2
              refine cr_goto h (tgt := 130) (by decide) dX9_share_120 ?_
              refine cr_iret h rfl rfl rfl dX9_share_130 ?_
              exact hK _ _ hyp
          · have hyp := hyp.2 c8
            refine cr_aload_n h (j := 0) rfl rfl dX9_share_85 ?_
            refine cr_iload_n h (j := 1) rfl rfl dX9_share_86 ?_
            refine cr_iload_n h (j := 2) rfl rfl dX9_share_87 ?_
            refine cr_callV h (c0 := 9) (T0 := TX9) C_yX9_coins cZ_yX9_coins wm_X9_370 wv_yX9_coins we_yX9_coins (by decide) rfl rfl (cr_rmS (by decide) (by decide)) (As := [.int x1, .int x2]) rfl (Nat.le_of_ble_eq_true rfl) dX9_share_88 ⟨τ, x1, x2, rfl, hτ, rfl, hyp.1, ?_⟩
            have hyp := hyp.2
            show cr_V Γ 91 [.ref 200, .int x1, .int x2, .int x3, .null, .null] [.int (f_yX9_coins τ x1 x2 I)] I (cr_rf τ) 247
            refine cr_iret h rfl rfl rfl dX9_share_91 ?_
            exact hK _ _ hyp
        · have hyp := hyp.2 c7
          refine cr_bipush h (v := (-2 : Int32)) (by decide) dX9_share_77 ?_
          refine cr_iret h rfl rfl rfl dX9_share_79 ?_
          exact hK _ _ hyp
      · have hyp := hyp.2 c6
        refine cr_iload_n h (j := 2) rfl rfl dX9_share_24 ?_
        refine cr_i2l h dX9_share_25 ?_
        refine cr_lconst h (v := (1 : Int64)) (by decide) dX9_share_26 ?_
        refine cr_ldc2 h wc_X9_246 dX9_share_27 ?_
        refine cr_callS h C_yX9_in cZ_yX9_in wm_X9_154 ws_yX9_in (cr_rmS (by decide) (by decide)) (As := [.long x2.toInt64, .long (1 : Int64), .long (6 : Int64)]) rfl (Nat.le_of_ble_eq_true rfl) dX9_share_30 ⟨τ, x2.toInt64, (1 : Int64), (6 : Int64), rfl, hτ, rfl, ?_⟩
        show cr_V Γ 33 [.ref 200, .int x1, .int x2, .int x3, .null, .null] [.int (f_yX9_in τ x2.toInt64 (1 : Int64) (6 : Int64) I)] I (cr_rf τ) 247
        refine cr_if_eq h (tgt := 49) (by decide) dX9_share_33 (fun c10 => ?_) (fun c10 => ?_)
        · have hyp := hyp.1 c10
          refine cr_iload_n h (j := 1) rfl rfl dX9_share_49 ?_
          refine cr_callS h C_yX9_isSix cZ_yX9_isSix wm_X9_353 ws_yX9_isSix (cr_rmS (by decide) (by decide)) (As := [.int x1]) rfl (Nat.le_of_ble_eq_true rfl) dX9_share_50 ⟨τ, x1, rfl, hτ, rfl, ?_⟩
          show cr_V Γ 53 [.ref 200, .int x1, .int x2, .int x3, .null, .null] [.int (f_yX9_isSix τ x1 I)] I (cr_rf τ) 247
          refine cr_if_ne h (tgt := 61) (by decide) dX9_share_53 (fun c11 => ?_) (fun c11 => ?_)
          · have hyp := hyp.1 c11
            refine cr_bipush h (v := (-3 : Int32)) (by decide) dX9_share_61 ?_
            refine cr_iret h rfl rfl rfl dX9_share_63 ?_
            exact hK _ _ hyp
          · have hyp := hyp.2 c11
            refine cr_bipush h (v := (-2 : Int32)) (by decide) dX9_share_56 ?_
            refine cr_goto h (tgt := 63) (by decide) dX9_share_58 ?_
            refine cr_iret h rfl rfl rfl dX9_share_63 ?_
            exact hK _ _ hyp
        · have hyp := hyp.2 c10
          refine cr_iload_n h (j := 1) rfl rfl dX9_share_36 ?_
          refine cr_i2l h dX9_share_37 ?_
          refine cr_lconst h (v := (0 : Int64)) (by decide) dX9_share_38 ?_
          refine cr_iload_n h (j := 2) rfl rfl dX9_share_39 ?_
          refine cr_iconst h (v := (1 : Int32)) (by decide) dX9_share_40 ?_
          refine cr_isub h dX9_share_41 ?_
          refine cr_i2l h dX9_share_42 ?_
          refine cr_callS h C_yX9_in cZ_yX9_in wm_X9_154 ws_yX9_in (cr_rmS (by decide) (by decide)) (As := [.long x1.toInt64, .long (0 : Int64), .long (x2 - (1 : Int32)).toInt64]) rfl (Nat.le_of_ble_eq_true rfl) dX9_share_43 ⟨τ, x1.toInt64, (0 : Int64), (x2 - (1 : Int32)).toInt64, rfl, hτ, rfl, ?_⟩
          show cr_V Γ 46 [.ref 200, .int x1, .int x2, .int x3, .null, .null] [.int (f_yX9_in τ x1.toInt64 (0 : Int64) ((x2 - (1 : Int32)).toInt64) I)] I (cr_rf τ) 247
          refine cr_if_eq h (tgt := 56) (by decide) dX9_share_46 (fun c12 => ?_) (fun c12 => ?_)
          · have hyp := hyp.1 c12
            refine cr_bipush h (v := (-2 : Int32)) (by decide) dX9_share_56 ?_
            refine cr_goto h (tgt := 63) (by decide) dX9_share_58 ?_
            refine cr_iret h rfl rfl rfl dX9_share_63 ?_
            exact hK _ _ hyp
          · have hyp := hyp.2 c12
            refine cr_iload_n h (j := 1) rfl rfl dX9_share_49 ?_
            refine cr_callS h C_yX9_isSix cZ_yX9_isSix wm_X9_353 ws_yX9_isSix (cr_rmS (by decide) (by decide)) (As := [.int x1]) rfl (Nat.le_of_ble_eq_true rfl) dX9_share_50 ⟨τ, x1, rfl, hτ, rfl, ?_⟩
            show cr_V Γ 53 [.ref 200, .int x1, .int x2, .int x3, .null, .null] [.int (f_yX9_isSix τ x1 I)] I (cr_rf τ) 247
            refine cr_if_ne h (tgt := 61) (by decide) dX9_share_53 (fun c13 => ?_) (fun c13 => ?_)
            · have hyp := hyp.1 c13
              refine cr_bipush h (v := (-3 : Int32)) (by decide) dX9_share_61 ?_
              refine cr_iret h rfl rfl rfl dX9_share_63 ?_
              exact hK _ _ hyp
            · have hyp := hyp.2 c13
              refine cr_bipush h (v := (-2 : Int32)) (by decide) dX9_share_56 ?_
              refine cr_goto h (tgt := 63) (by decide) dX9_share_58 ?_
              refine cr_iret h rfl rfl rfl dX9_share_63 ?_
              exact hK _ _ hyp
