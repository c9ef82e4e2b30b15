theorem cr_outer (c : ClassId) (N h0 : Nat) : ∀ i : Nat, Jvm.Free.Multi.outerC c N h0 i = arrV c N (fun j => va_rf (if j < i then some (h0 + 1 + j) else none))
  | 0 => by
    show ({ cls := c, slots := Array.replicate N .null, vm := .none } : Cell) = _
    rw [arrV_new]
    refine congrArg (arrV c N) (funext fun j => ?_)
    simp [va_rf]
  | i + 1 => by
    show (Jvm.Free.Multi.outerC c N h0 i).setSlot i (.ref (h0 + 1 + i)) = _
    rw [cr_outer c N h0 i, arrV_store]
    refine congrArg (arrV c N) (funext fun j => ?_)
    by_cases e : j = i
    · subst e
      simp [updV, va_rf]
    · by_cases h : j < i
      · simp [updV, e, h, Nat.lt_succ_of_lt h]
      · simp [updV, e, h, show ¬ j < i + 1 by omega]
theorem cr_arr_ext {c : ClassId} {N : Nat} {f f' : Nat → Value} (h : ∀ j, j < N → f j = f' j) : arrV c N f = arrV c N f' := by
  unfold arrV
  congr 1
  apply Array.ext
  · simp
  · intro i h1 h2
    simp only [Array.getElem_ofFn]
    exact h i (by simpa using h1)
theorem cr_ce_off {ad : Nat → Nat} {g : cr_g} {I I' : cr_I} {R : cr_R} {x : Nat} (h : ∀ j, I' x j = I x j) : cr_ce ad g I' R x = cr_ce ad g I R x := by
  have e2 : I' x = I x := funext h
  unfold cr_ce cr_fs
  simp only [h, e2]
section CRM
variable {y : MethodName} {cc : ByteArray} {nL : Nat} {ret : Option FieldType} {rm : Room} {K : cr_K} {nS nE : Nat} {Γ : cr_G} {pc : Nat} {ls st : List Value} {I : cr_I} {R : cr_R} {n : Nat}
theorem cr_rows {D : va_G} {ad : Nat → Nat} {g : cr_g} {base : Nat} {H H1 : Heap} {M : Nat} (hA : cr_ad ad base) (hz : H.size = base + n) : ∀ N : Nat, n + 1 + N ≤ 247 → (∀ j, j < N → cr_kd (n + 1 + j) = (0, M)) → va_P D cr_cl (cr_wd ad g I R (n + 1)) H1 → (∀ j, j < N → ∀ k, I (n + 1 + j) k = 0) → (∀ j, j < N → H1[H.size + 1 + j]? = some (arrV g.1 M (fun _ => .int 0))) → va_P D cr_cl (cr_wd ad g I R (n + 1 + N)) H1
  | 0, _, _, hP, _, _ => hP
  | N + 1, hle, hk, hP, hI, hc => by
    have ih := cr_rows hA hz N (by omega) (fun j hj => hk j (by omega)) hP (fun j hj => hI j (by omega)) (fun j hj => hc j (by omega))
    rw [show n + 1 + (N + 1) = (n + 1 + N) + 1 by omega, cr_wd_app]
    refine va_P.app ih (fun k q hq => ?_)
    have h0 : k < 1 := (List.getElem?_eq_some_iff.mp hq).1
    rw [show k = 0 by omega] at hq
    cases hq
    rw [cr_ce_int (hk N (by omega))]
    show H1[ad (n + 1 + N)]? = some (vp_cell _ _)
    rw [hA _ (by omega), show base + (n + 1 + N) = H.size + 1 + N by omega, hc N (by omega), vp_cell_i]
    congr 2
    funext j
    rw [hI N (by omega) j]
theorem cr_sl_rows {M : Nat} : ∀ N : Nat, n + 1 + N ≤ 247 → (∀ j, j < N → cr_kd (n + 1 + j) = (0, M)) → cr_sl (n + 1 + N) = cr_sl (n + 1) + N * M
  | 0, _, _ => by simp
  | N + 1, hle, hk => by
    rw [show n + 1 + (N + 1) = (n + 1 + N) + 1 by omega, cr_sl_succ (hk N (by omega)) (by omega), cr_sl_rows N (by omega) (fun j hj => hk j (by omega)), Nat.succ_mul]
    omega
theorem cr_mna (h : cr_Ok y cc nL ret rm K nS nE Γ) {j N M : Nat} {i k : Int32} (hw : Cond.classLink y.cls j "[[I" ∈ cr_GW) (harr : Cond.arrayClass .int ∈ cr_GW) (hi : i.toInt = N) (hk : k.toInt = M) (hN : N ≤ 1000) (hM : M ≤ 1000) (hkd : cr_kd n = (1, N)) (hkr : ∀ j, j < N → cr_kd (n + 1 + j) = (0, M)) (hR : ∀ j, j < N → R n j = some (n + 1 + j)) (hI : ∀ j, j < N → ∀ k, I (n + 1 + j) k = 0) (hrn : cr_rn rm nS n (n + 1 + N) nE) (d : decode cc pc = .ok (.multianewarray j 2, 4)) (k1 : cr_V Γ (pc + 4) ls (.ref n :: st) I R (n + 1 + N)) : cr_V Γ pc ls (.int k :: .int i :: st) I R n := by
  obtain ⟨⟨p, l, e, Rm, s, m, args, below, meth, c⟩, Q, D, g, ad, base, n0⟩ := Γ
  obtain ⟨hx, hb, hml, hown, hts, hK, hST, hlk, hrt, hA, hs0, hQ, hrm, hnm, hn0⟩ := h
  intro H locs la hP hz hS hl
  subst hn0
  subst hrm
  obtain ⟨⟨hr4, hr5, hr6, hr9⟩, hr7, hr8⟩ := hrn
  have hn : n < 247 := by omega
  have hz := hz hn
  have ms1 := cr_sl_mono hr4
  have ms2 := cr_sl_mono hr6
  have ms3 := cr_sl_succ hkd hn
  have ms4 := cr_sl_rows (n := n) (M := M) N (by omega) hkr
  have nz : ∀ (z : Int32) (q : Nat), z.toInt = q → ¬ z < 0 ∧ z.toNatClampNeg = q := fun z q hq => ⟨by rw [Int32.lt_iff_toInt_lt, hq]; simp, by show z.toInt.toNat = q; rw [hq]; simp⟩
  obtain ⟨hi0, hi1⟩ := nz i N hi
  obtain ⟨hk0, hk1⟩ := nz k M hk
  intro T hT X
  obtain ⟨vm₁, cA, comp, -, fA, fC, hO, -, X', step⟩ := X.multianewarray2F hx hown (ty := .int) (hts _ hw) (cr_AOA.use hST.2.2.2.2.2.2.1) (hts _ harr) (g := F0 m pc la (.int k :: .int i :: st.map (cr_tr ad))) rfl (by rw [hb]; exact d) rfl hi0 hk0 (by rw [hi1]; omega) (by rw [hk1]; show M * 4 ≤ _; omega) (by rw [hk1]; omega) rfl rfl (by rw [hi1]; omega) (by rw [hi1, hk1]; omega)
  have ec1 : comp = g.1 := by
    have h1 : s.vm.findClass ("[" ++ FieldType.int.toString) = some g.1 := (hK.2 0 _ rfl).2
    have h2 : s.vm.findClass ("[" ++ FieldType.int.toString) = some comp := fC
    exact Option.some.inj (h2.symm.trans h1)
  have ec2 : cA = g.2.1 := by
    have h1 : s.vm.findClass ("[" ++ (FieldType.array .int).toString) = some g.2.1 := (hK.2 1 _ rfl).2
    exact Option.some.inj (fA.symm.trans h1)
  subst ec1
  subst ec2
  rw [hi1, hk1] at X' step
  generalize hF : Jvm.Free.Multi.fill (T.setVm vm₁) g.2.1 g.1 N M (defaultValue .int) N = F at X' step
  have hTh : (T.setVm vm₁).heap = H := hT
  obtain ⟨f1, f2, -, -⟩ := Jvm.Free.Multi.fill_facts (T.setVm vm₁) g.2.1 g.1 N M (defaultValue .int) N
  rw [hF, hTh] at f1 f2
  have hold : ∀ x : Nat, x < H.size → F.heap[x]? = H[x]? := fun x hx => by
    have := Jvm.Free.Multi.fill_old (T.setVm vm₁) g.2.1 g.1 N M (defaultValue .int) (a := x) (by rw [hTh]; exact hx) N
    rw [hF, hTh] at this
    exact this
  have hrow : ∀ j : Nat, j < N → F.heap[H.size + 1 + j]? = some (arrV g.1 M (fun _ => .int 0)) := fun j hj => by
    have := Jvm.Free.Multi.fill_inner (T.setVm vm₁) g.2.1 g.1 N M (defaultValue .int) N j hj
    rw [hF, hTh] at this
    rw [this]
    show some ({ cls := g.1, slots := Array.replicate M (.int 0), vm := .none } : Cell) = _
    rw [arrV_new]
  have ea : ad n = H.size := by rw [hA n (by omega), hz]
  have hP1 : va_P D cr_cl (cr_wd ad g I R (n + 1)) F.heap := by
    refine cr_push hA hn hP hz hold ?_
    rw [cr_ce_row hkd, ea]
    show F.heap[H.size]? = some (vp_cell _ _)
    rw [f2, cr_outer, vp_cell_q]
    congr 1
    refine cr_arr_ext fun j hj => ?_
    rw [if_pos hj, hR j hj]
    show va_rf (some _) = va_rf (some _)
    rw [hA _ (by omega), hz]
    congr 2
    omega
  have hP2 := cr_rows (D := D) (R := R) hA hz N (by omega) hkr hP1 hI hrow
  have c1 : n - n0 + 1 + N = n + 1 + N - n0 := by omega
  have c2 : cr_sl n - cr_sl n0 + N + N * M = cr_sl (n + 1 + N) - cr_sl n0 := by omega
  rw [c1, c2] at X'
  obtain ⟨t, a1, b1⟩ := k1 F.heap locs la hP2 (fun _ => by rw [f1, hz]; omega) (cr_grow hS (by rw [f1]; omega) hold) hl F rfl X'
  refine ⟨t, step t ?_, b1⟩
  have e : T.heap.size = H.size := by rw [hT]
  rw [e]
  rw [List.map_cons, show cr_tr ad (.ref n) = .ref (ad n) from rfl, ea] at a1
  exact a1
theorem cr_acopy (h : cr_Ok y cc nL ret rm K nS nE Γ) {j b0 b1 N0 N1 : Nat} {sp dp k : Int32} (hw : Cond.methodLink y.cls j arraycopyName ∈ cr_GW) (hw2 : Cond.native arraycopyName ∈ cr_GW) (hw3 : Cond.static arraycopyName ∈ cr_GW) (hw4 : Cond.initialized "java/lang/System" ∈ cr_GW) (hn : n = 247) (hb0 : b0 < n) (hb1 : b1 < n) (hk0 : cr_kd b0 = (0, N0)) (hk1 : cr_kd b1 = (0, N1)) (h1 : ¬ sp < 0) (h2 : ¬ dp < 0) (h3 : ¬ k < 0) (h4 : sp.toNatClampNeg + k.toNatClampNeg ≤ N0) (h5 : dp.toNatClampNeg + k.toNatClampNeg ≤ N1) (h8 : (st.map fun v => v.category).sum ≤ 8) (hf : 1 ≤ rm.frames ∧ 40 ≤ rm.locals) (d : decode cc pc = .ok (.invokestatic j, 3)) (k1 : cr_V Γ (pc + 3) ls st (fun b q => if b = b1 then va_cpy (I b0) (I b1) sp.toNatClampNeg dp.toNatClampNeg k.toNatClampNeg q else I b q) R n) : cr_V Γ pc ls (.int k :: .int dp :: .ref b1 :: .int sp :: .ref b0 :: st) I R n := by
  obtain ⟨⟨p, l, e, Rm, s, m, args, below, meth, c⟩, Q, D, g, ad, base, n0⟩ := Γ
  obtain ⟨hx, hb, hml, hown, hts, hK, hST, hlk, hrt, hA, hs0, hQ, hrm, hnm, hn0⟩ := h
  intro H locs la hP hz hS hl
  subst hrm
  have hD := cr_wd_D (g := g) (I := I) (R := R) hA (show n ≤ 1000 by omega)
  have h8' : ((st.map (cr_tr ad)).map fun v => v.category).sum ≤ 8 := by
    rw [List.map_map]
    have : ((fun v : Value => v.category) ∘ cr_tr ad) = fun v => v.category := funext fun v => cr_tr_cat ad v
    rw [this]
    exact h8
  have hnf : nativeFrameWords "java/lang/System" "arraycopy" 5 + 11 ≤ 32 := by decide +kernel
  refine va_copyi (D := D) (rest := st.map (cr_tr ad)) (A := fun q => base ≤ q) hx hb hl.1.symm hown (hts _ hw) (hts _ hw2) (hts _ hw3) (hts _ hw4) hK hP hD hS b0 b1 0 0 (ty := .int) (by rw [cr_wd_at hb0, cr_ce_int hk0]) (by rw [cr_wd_at hb1, cr_ce_int hk1]) rfl rfl rfl h1 h2 h3 h4 h5 (fun i hi => rfl) hf.1 (by omega) d (fun H1 locs1 hP1 hD1 hS1 => ?_)
  refine k1 H1 locs1 la ?_ (fun q => by omega) hS1 hl
  have e := cr_wd_set (ad := ad) (g := g) (I := I) (R := R) (I' := fun b q => if b = b1 then va_cpy (I b0) (I b1) sp.toNatClampNeg dp.toNatClampNeg k.toNatClampNeg q else I b q) (R' := R) hb1 (fun x _ hx => cr_ce_off (fun j => if_neg hx))
  rw [cr_ce_int hk1, show (fun q => if b1 = b1 then va_cpy (I b0) (I b1) sp.toNatClampNeg dp.toNatClampNeg k.toNatClampNeg q else I b1 q) = va_cpy (I b0) (I b1) sp.toNatClampNeg dp.toNatClampNeg k.toNatClampNeg from funext fun q => if_pos rfl] at e
  rw [← e]
  exact hP1
theorem cr_ldcS67 (h : cr_Ok y cc nL ret rm K nS nE Γ) (hy : y.cls = RX7) (d : decode cc pc = .ok (.ldc 67, 2)) (k1 : cr_V Γ (pc + 2) ls (.ref 1003 :: st) I R n) : cr_V Γ pc ls st I R n := by
  obtain ⟨⟨p, l, e, Rm, s, m, args, below, meth, c⟩, Q, D, g, ad, base, n0⟩ := Γ
  obtain ⟨hx, hb, hml, hown, hts, hK, hST, hlk, hrt, hA, hs0, hQ, hrm, hnm, hn0⟩ := h
  intro H locs la hP hz hS hl
  rw [hy] at hown
  exact va_ldcS hx hb hown hST.2.2.2.2.1.1 d (k1 H locs la hP hz hS hl)
theorem cr_ldcS72 (h : cr_Ok y cc nL ret rm K nS nE Γ) (hy : y.cls = RX7) (d : decode cc pc = .ok (.ldc 72, 2)) (k1 : cr_V Γ (pc + 2) ls (.ref 1004 :: st) I R n) : cr_V Γ pc ls st I R n := by
  obtain ⟨⟨p, l, e, Rm, s, m, args, below, meth, c⟩, Q, D, g, ad, base, n0⟩ := Γ
  obtain ⟨hx, hb, hml, hown, hts, hK, hST, hlk, hrt, hA, hs0, hQ, hrm, hnm, hn0⟩ := h
  intro H locs la hP hz hS hl
  rw [hy] at hown
  exact va_ldcS hx hb hown hST.2.2.2.2.1.2.1 d (k1 H locs la hP hz hS hl)
theorem cr_ldcS74 (h : cr_Ok y cc nL ret rm K nS nE Γ) (hy : y.cls = RX7) (d : decode cc pc = .ok (.ldc 74, 2)) (k1 : cr_V Γ (pc + 2) ls (.ref 1005 :: st) I R n) : cr_V Γ pc ls st I R n := by
  obtain ⟨⟨p, l, e, Rm, s, m, args, below, meth, c⟩, Q, D, g, ad, base, n0⟩ := Γ
  obtain ⟨hx, hb, hml, hown, hts, hK, hST, hlk, hrt, hA, hs0, hQ, hrm, hnm, hn0⟩ := h
  intro H locs la hP hz hS hl
  rw [hy] at hown
  exact va_ldcS hx hb hown hST.2.2.2.2.1.2.2.1 d (k1 H locs la hP hz hS hl)
theorem cr_ldcS55 (h : cr_Ok y cc nL ret rm K nS nE Γ) (hy : y.cls = RX7) (d : decode cc pc = .ok (.ldc 55, 2)) (k1 : cr_V Γ (pc + 2) ls (.ref 1006 :: st) I R n) : cr_V Γ pc ls st I R n := by
  obtain ⟨⟨p, l, e, Rm, s, m, args, below, meth, c⟩, Q, D, g, ad, base, n0⟩ := Γ
  obtain ⟨hx, hb, hml, hown, hts, hK, hST, hlk, hrt, hA, hs0, hQ, hrm, hnm, hn0⟩ := h
  intro H locs la hP hz hS hl
  rw [hy] at hown
  exact va_ldcS hx hb hown hST.2.2.2.2.1.2.2.2.1 d (k1 H locs la hP hz hS hl)
theorem cr_ldcS99 (h : cr_Ok y cc nL ret rm K nS nE Γ) (hy : y.cls = RX7) (d : decode cc pc = .ok (.ldc 99, 2)) (k1 : cr_V Γ (pc + 2) ls (.ref 1007 :: st) I R n) : cr_V Γ pc ls st I R n := by
  obtain ⟨⟨p, l, e, Rm, s, m, args, below, meth, c⟩, Q, D, g, ad, base, n0⟩ := Γ
  obtain ⟨hx, hb, hml, hown, hts, hK, hST, hlk, hrt, hA, hs0, hQ, hrm, hnm, hn0⟩ := h
  intro H locs la hP hz hS hl
  rw [hy] at hown
  exact va_ldcS hx hb hown hST.2.2.2.2.1.2.2.2.2.1 d (k1 H locs la hP hz hS hl)
theorem cr_ldcS101 (h : cr_Ok y cc nL ret rm K nS nE Γ) (hy : y.cls = RX7) (d : decode cc pc = .ok (.ldc 101, 2)) (k1 : cr_V Γ (pc + 2) ls (.ref 1008 :: st) I R n) : cr_V Γ pc ls st I R n := by
  obtain ⟨⟨p, l, e, Rm, s, m, args, below, meth, c⟩, Q, D, g, ad, base, n0⟩ := Γ
  obtain ⟨hx, hb, hml, hown, hts, hK, hST, hlk, hrt, hA, hs0, hQ, hrm, hnm, hn0⟩ := h
  intro H locs la hP hz hS hl
  rw [hy] at hown
  exact va_ldcS hx hb hown hST.2.2.2.2.1.2.2.2.2.2.1 d (k1 H locs la hP hz hS hl)
theorem cr_ldcS103 (h : cr_Ok y cc nL ret rm K nS nE Γ) (hy : y.cls = RX7) (d : decode cc pc = .ok (.ldc 103, 2)) (k1 : cr_V Γ (pc + 2) ls (.ref 1009 :: st) I R n) : cr_V Γ pc ls st I R n := by
  obtain ⟨⟨p, l, e, Rm, s, m, args, below, meth, c⟩, Q, D, g, ad, base, n0⟩ := Γ
  obtain ⟨hx, hb, hml, hown, hts, hK, hST, hlk, hrt, hA, hs0, hQ, hrm, hnm, hn0⟩ := h
  intro H locs la hP hz hS hl
  rw [hy] at hown
  exact va_ldcS hx hb hown hST.2.2.2.2.1.2.2.2.2.2.2.1 d (k1 H locs la hP hz hS hl)
theorem cr_ldcS105 (h : cr_Ok y cc nL ret rm K nS nE Γ) (hy : y.cls = RX7) (d : decode cc pc = .ok (.ldc 105, 2)) (k1 : cr_V Γ (pc + 2) ls (.ref 1010 :: st) I R n) : cr_V Γ pc ls st I R n := by
  obtain ⟨⟨p, l, e, Rm, s, m, args, below, meth, c⟩, Q, D, g, ad, base, n0⟩ := Γ
  obtain ⟨hx, hb, hml, hown, hts, hK, hST, hlk, hrt, hA, hs0, hQ, hrm, hnm, hn0⟩ := h
  intro H locs la hP hz hS hl
  rw [hy] at hown
  exact va_ldcS hx hb hown hST.2.2.2.2.1.2.2.2.2.2.2.2.1 d (k1 H locs la hP hz hS hl)
theorem cr_ldcS107 (h : cr_Ok y cc nL ret rm K nS nE Γ) (hy : y.cls = RX7) (d : decode cc pc = .ok (.ldc 107, 2)) (k1 : cr_V Γ (pc + 2) ls (.ref 1011 :: st) I R n) : cr_V Γ pc ls st I R n := by
  obtain ⟨⟨p, l, e, Rm, s, m, args, below, meth, c⟩, Q, D, g, ad, base, n0⟩ := Γ
  obtain ⟨hx, hb, hml, hown, hts, hK, hST, hlk, hrt, hA, hs0, hQ, hrm, hnm, hn0⟩ := h
  intro H locs la hP hz hS hl
  rw [hy] at hown
  exact va_ldcS hx hb hown hST.2.2.2.2.1.2.2.2.2.2.2.2.2.1 d (k1 H locs la hP hz hS hl)
theorem cr_ldcS109 (h : cr_Ok y cc nL ret rm K nS nE Γ) (hy : y.cls = RX7) (d : decode cc pc = .ok (.ldc 109, 2)) (k1 : cr_V Γ (pc + 2) ls (.ref 1012 :: st) I R n) : cr_V Γ pc ls st I R n := by
  obtain ⟨⟨p, l, e, Rm, s, m, args, below, meth, c⟩, Q, D, g, ad, base, n0⟩ := Γ
  obtain ⟨hx, hb, hml, hown, hts, hK, hST, hlk, hrt, hA, hs0, hQ, hrm, hnm, hn0⟩ := h
  intro H locs la hP hz hS hl
  rw [hy] at hown
  exact va_ldcS hx hb hown hST.2.2.2.2.1.2.2.2.2.2.2.2.2.2.1 d (k1 H locs la hP hz hS hl)
theorem cr_ldcS90 (h : cr_Ok y cc nL ret rm K nS nE Γ) (hy : y.cls = RX7) (d : decode cc pc = .ok (.ldc 90, 2)) (k1 : cr_V Γ (pc + 2) ls (.ref 1013 :: st) I R n) : cr_V Γ pc ls st I R n := by
  obtain ⟨⟨p, l, e, Rm, s, m, args, below, meth, c⟩, Q, D, g, ad, base, n0⟩ := Γ
  obtain ⟨hx, hb, hml, hown, hts, hK, hST, hlk, hrt, hA, hs0, hQ, hrm, hnm, hn0⟩ := h
  intro H locs la hP hz hS hl
  rw [hy] at hown
  exact va_ldcS hx hb hown hST.2.2.2.2.1.2.2.2.2.2.2.2.2.2.2.1 d (k1 H locs la hP hz hS hl)
theorem cr_ldcS92 (h : cr_Ok y cc nL ret rm K nS nE Γ) (hy : y.cls = RX7) (d : decode cc pc = .ok (.ldc 92, 2)) (k1 : cr_V Γ (pc + 2) ls (.ref 1014 :: st) I R n) : cr_V Γ pc ls st I R n := by
  obtain ⟨⟨p, l, e, Rm, s, m, args, below, meth, c⟩, Q, D, g, ad, base, n0⟩ := Γ
  obtain ⟨hx, hb, hml, hown, hts, hK, hST, hlk, hrt, hA, hs0, hQ, hrm, hnm, hn0⟩ := h
  intro H locs la hP hz hS hl
  rw [hy] at hown
  exact va_ldcS hx hb hown hST.2.2.2.2.1.2.2.2.2.2.2.2.2.2.2.2.1 d (k1 H locs la hP hz hS hl)
theorem cr_ldcS65 (h : cr_Ok y cc nL ret rm K nS nE Γ) (hy : y.cls = RX7) (d : decode cc pc = .ok (.ldc 65, 2)) (k1 : cr_V Γ (pc + 2) ls (.ref 1015 :: st) I R n) : cr_V Γ pc ls st I R n := by
  obtain ⟨⟨p, l, e, Rm, s, m, args, below, meth, c⟩, Q, D, g, ad, base, n0⟩ := Γ
  obtain ⟨hx, hb, hml, hown, hts, hK, hST, hlk, hrt, hA, hs0, hQ, hrm, hnm, hn0⟩ := h
  intro H locs la hP hz hS hl
  rw [hy] at hown
  exact va_ldcS hx hb hown hST.2.2.2.2.1.2.2.2.2.2.2.2.2.2.2.2.2 d (k1 H locs la hP hz hS hl)
end CRM
