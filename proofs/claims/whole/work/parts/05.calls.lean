def cr_STn (U : State) : Prop := va_Nw (.methodLinkNest RX8 9 yX7_init "CartRows") U ∧ va_Nw (.methodLinkNest RX7 21 yX6_init "CartRows") U ∧ va_Nw (.methodLinkNest RX8 18 yX3_init "CartRows") U ∧ va_Nw (.methodLinkNest RX3 11 yX2_init "CartRows") U ∧ va_Nw (.methodLinkNest RX2 24 yX6_init "CartRows") U ∧ va_Nw (.methodLinkNest RX8 25 yX4_init "CartRows") U ∧ va_Nw (.methodLinkNest RX8 32 yX1_init "CartRows") U ∧ va_Nw (.methodLinkNest RX8 39 yX5_init "CartRows") U ∧ va_Nw (.methodLinkNest RX8 46 yX0_init "CartRows") U ∧ va_Nw (.fieldLinkNest "CartRows$Shares" 20 "CartRows" "FACTORIALS" "[I" "CartRows") U
theorem cr_ST.warm {ad : Nat → Nat} {base : Nat} {s U : State} {H : Heap} {locs : List Loc} (h : cr_ST ad base s s.heap) (hS : va_S (fun q => base ≤ q) s.heap H locs) (hU : U.heap = H) (hW : s.WarmedH U.vm) : cr_ST ad base U U.heap := by
  obtain ⟨⟨z1, z2, z3, z4⟩, ⟨t1, t2, t3⟩, cz, ks, rs, ⟨n0, n1, n2, n3, n4, n5, n6, n7, n8, nf⟩, a1, a2⟩ := h
  obtain ⟨r0, r1, r2, r3, r4, r5, r6, r7, r8, r9, r10, r11, r12⟩ := rs
  rw [hU]
  have al := hW.alike
  exact ⟨⟨(z1.kept hS.2.1).moved al, (z2.kept hS.2.1).moved al, (z3.kept hS.2.1).moved al, z4.imp (fun z => (z.kept hS.2.1).moved al) (fun z => (z.kept hS.2.1).moved al)⟩, ⟨(t1.kept hS.2.1).moved al, (t2.kept hS.2.1).moved al, (t3.kept hS.2.1).moved al⟩, (cz.kept hS.2.1).moved al, (ks.kept hS.2.1).moved al, ⟨r0.warm hW, r1.warm hW, r2.warm hW, r3.warm hW, r4.warm hW, r5.warm hW, r6.warm hW, r7.warm hW, r8.warm hW, r9.warm hW, r10.warm hW, r11.warm hW, r12.warm hW⟩, ⟨va_Nw.warmM hW n0, va_Nw.warmM hW n1, va_Nw.warmM hW n2, va_Nw.warmM hW n3, va_Nw.warmM hW n4, va_Nw.warmM hW n5, va_Nw.warmM hW n6, va_Nw.warmM hW n7, va_Nw.warmM hW n8, va_Nw.warmF hW nf⟩, a1.moved al, a2.moved al⟩
theorem cr_ST.calling {ad : Nat → Nat} {base : Nat} {U : State} {f : JFrame} {mk : MethodId} {a : Array Value} (h : cr_ST ad base U U.heap) : cr_ST ad base (U.calling f mk a) (U.calling f mk a).heap := by
  obtain ⟨⟨z1, z2, z3, z4⟩, ⟨t1, t2, t3⟩, cz, ks, rs, ⟨n0, n1, n2, n3, n4, n5, n6, n7, n8, nf⟩, a1, a2⟩ := h
  obtain ⟨r0, r1, r2, r3, r4, r5, r6, r7, r8, r9, r10, r11, r12⟩ := rs
  have al : U.vm.Alike (U.calling f mk a).vm := Vm.Alike.refl U.vm
  exact ⟨⟨z1.moved al, z2.moved al, z3.moved al, z4.imp (fun z => z.moved al) (fun z => z.moved al)⟩, ⟨t1.moved al, t2.moved al, t3.moved al⟩, cz.moved al, ks.moved al, ⟨r0.same rfl, r1.same rfl, r2.same rfl, r3.same rfl, r4.same rfl, r5.same rfl, r6.same rfl, r7.same rfl, r8.same rfl, r9.same rfl, r10.same rfl, r11.same rfl, r12.same rfl⟩, ⟨va_Nw.same rfl rfl n0, va_Nw.same rfl rfl n1, va_Nw.same rfl rfl n2, va_Nw.same rfl rfl n3, va_Nw.same rfl rfl n4, va_Nw.same rfl rfl n5, va_Nw.same rfl rfl n6, va_Nw.same rfl rfl n7, va_Nw.same rfl rfl n8, va_Nw.same rfl rfl nf⟩, a1.moved al, a2.moved al⟩
theorem cr_blind {D : va_G} {g : cr_g} {ad : Nat → Nat} {base : Nat} {vs : List Value} {I : cr_I} {R : cr_R} {n : Nat} : FrameBlind (cr_PP D g ad base vs I R n) := by
  intro a U f mk hq
  obtain ⟨q0, qP, qz, qK, qS⟩ := hq
  exact ⟨q0, qP, qz, va_K.moved (u := U) (U := U.calling f mk a) (Vm.Alike.refl U.vm) qK, qS.calling⟩
/-- what the tables say of a method that is called -/
def cr_Z (z : MethodName) (cz : ByteArray) (nLz : Nat) (rz : Option FieldType) (np : Nat) : Prop := Cond.code z cz nLz rz ∈ cr_GW ∧ Cond.initialized z.cls ∈ cr_GW ∧ (z.cls ≠ "java/lang/invoke/MethodHandle" ∧ z.cls ≠ "java/lang/invoke/VarHandle" ∧ (parseMethodDescriptor z.desc).map (fun d => d.parameters.length) = some np)
/-- the room that a call wants -/
def cr_rm (rm rmz : Room) (nLz nS n n' nE : Nat) : Prop := (rmz.frames + 1 ≤ rm.frames ∧ 8 + (nLz + 11) + rmz.locals ≤ rm.locals) ∧ (rmz.cells = n' - n ∧ rmz.slots = cr_sl n' - cr_sl n) ∧ (nS ≤ n ∧ n ≤ n' ∧ n' ≤ nE) ∧ rm.cells = nE - nS ∧ rm.slots = cr_sl nE - cr_sl nS
section CRC
variable {y : MethodName} {cc : ByteArray} {nL : Nat} {ret : Option FieldType} {rm : Room} {K : cr_K} {nS nE : Nat} {Γ : cr_G} {pc : Nat} {ls st : List Value} {I : cr_I} {R : cr_R} {n : Nat}
variable {z : MethodName} {cz : ByteArray} {nLz : Nat} {rz : Option FieldType} {rmz : Room} {n' idx : Nat} {T : cr_T} {As stk : List Value}
theorem cr_behind {D : va_G} {g : cr_g} {ad : Nat → Nat} {p : Program} {l : Launch} {e : Env} {Rm : Room} {s : State} {m : MethodId} {args : Array Value} {below : List Frame} {meth : Method} {c : Code} {Q : State → Prop} {base n0 : Nat} {H : Heap} {locs : List Loc} {la : Array Slot} {a : Array Value} {K' : cr_K} {st0 rest : List Value} (hle : n0 ≤ n ∧ n ≤ n')
    (hr : va_Run p l e Rm s m args below meth c H locs (n - n0) (cr_sl n - cr_sl n0) (n' - n) (cr_sl n' - cr_sl n) (F0 m pc la st0) rest (cr_PQ D g ad base K' n' a) (fun q => base ≤ q)) (hS : va_S (fun q => base ≤ q) s.heap H locs)
    (kk : ∀ (v : Option Value) (I' : cr_I) (R' : cr_R), K' v I' R' → ∀ (H1 : Heap) (locs1 : List Loc), va_P D cr_cl (cr_wd ad g I' R' n') H1 → (n' < 247 → H1.size = base + n') → va_S (fun q => base ≤ q) s.heap H1 locs1 → W p l e Rm s m args below meth c H1 locs1 (n' - n0) (cr_sl n' - cr_sl n0) Q (F0 m (pc + 3) la ((v.map (cr_tr ad)).toList ++ rest))) : W p l e Rm s m args below meth c H locs (n - n0) (cr_sl n - cr_sl n0) Q (F0 m pc la st0) := by
  intro T hT X
  obtain ⟨v, st₀, t, T', L, h0, X', hL, e1, e2, ⟨⟨w, I', R', hv, hK', hP', hz'⟩, hF1, hF2⟩, stp⟩ := hr T hT X
  cases hv
  rw [h0] at hF1 hF2
  have c1 : n - n0 + (n' - n) = n' - n0 := by omega
  have m1 := cr_sl_mono hle.1
  have m2 := cr_sl_mono hle.2
  have c2 : cr_sl n - cr_sl n0 + (cr_sl n' - cr_sl n) = cr_sl n' - cr_sl n0 := by omega
  rw [c1, c2] at X'
  obtain ⟨t2, a1, b1⟩ := kk w I' R' hK' T'.heap (locs ++ L) (by rw [e1]; exact hP') (by rw [e1]; exact hz')
    ⟨Nat.le_trans hS.1 (by rw [e1]; exact hF1), fun q h1 h2 => by rw [e1, hF2 q (Nat.lt_of_lt_of_le h1 hS.1) h2]; exact hS.2.1 q h1 h2, fun q hq => by
      rcases List.mem_append.mp hq with h | h
      · exact hS.2.2 q h
      · exact hL q h⟩ T' rfl X'
  exact ⟨t2, stp t2 a1, b1⟩
theorem cr_callS (h : cr_Ok y cc nL ret rm K nS nE Γ) (hC : cr_C z cz nLz rz rmz n n' T) (hZ : cr_Z z cz nLz rz As.length) (hli : Cond.methodLink y.cls idx z ∈ cr_GW) (hsta : Cond.static z ∈ cr_GW) (hrm0 : cr_rm rm rmz nLz nS n n' nE) (hst : stk = As.reverse ++ st) (h8 : (st.map fun v => v.category).sum ≤ 8) (d : decode cc pc = .ok (.invokestatic idx, 3)) (hT : T (As) I R (fun v I' R' => cr_V Γ (pc + 3) ls (v.toList ++ st) I' R' n')) : cr_V Γ pc ls stk I R n := by
  obtain ⟨⟨p, l, e, Rm, s, m, args, below, meth, c⟩, Q, D, g, ad, base, n0⟩ := Γ
  obtain ⟨hx, hb, hml, hown, hts, hK, hST, hlk, hrt, hA, hs0, hQ, hrm, hnm, hn0⟩ := h
  intro H locs la hP hz hS hl
  subst hst
  subst hn0
  subst hrm
  have hmet := hC l D g ad base hA _ I R _ hT
  obtain ⟨hz1, hz2, hz3⟩ := hZ
  obtain ⟨hr1, ⟨hr2, hr3⟩, ⟨hr4, hr5, hr6⟩, hr7, hr8⟩ := hrm0
  have ms1 := cr_sl_mono hr4
  have ms2 := cr_sl_mono hr5
  have ms3 := cr_sl_mono hr6
  have hgood : GoodIn cr_GW (Cond.code z cz nLz rz :: cr_GW) := cr_good (fun _ q => q) hz1
  have h8' : ((st.map (cr_tr ad)).map fun v => v.category).sum ≤ 8 := by
    rw [List.map_map]
    have : ((fun v : Value => v.category) ∘ cr_tr ad) = fun v => v.category := funext fun v => cr_tr_cat ad v
    rw [this]
    exact h8
  refine cr_behind (n := n) (n' := n') ⟨hr4, hr5⟩ (st0 := (As.reverse ++ st).map (cr_tr ad)) (rest := st.map (cr_tr ad)) (va_runS (As := As.map (cr_tr ad)) (Ts := cr_GW) (own := y.cls) (nL := nL) ⟨hx, hb, hml, hown, hts⟩ hmet ⟨callB_of As.length hts hgood rfl hr2 hr3 (hts _ hz2) (hts _ hli) hz3 hr1, hts _ hsta⟩ ⟨cr_blind, fun U hU hW => ⟨rfl, by rw [hU]; exact hP, fun q => by rw [hU]; exact hz q, va_K.moved hW.alike hK, hST.warm hS hU hW⟩⟩ rfl (by simp) (hl.1.trans hml) (by simp [List.map_reverse]) (lv_room h8') d ⟨by omega, by omega⟩) hS (fun v I' R' hv H1 locs1 hP1 hz1 hS1 => ?_)
  have := hv H1 locs1 la hP1 hz1 hS1 hl
  rw [List.map_append] at this
  have e : (v.map (cr_tr ad)).toList = v.toList.map (cr_tr ad) := by cases v <;> rfl
  rw [e]
  exact this
theorem cr_callV (h : cr_Ok y cc nL ret rm K nS nE Γ) (hC : cr_C z cz nLz rz rmz n n' T) (hZ : cr_Z z cz nLz rz As.length) {b c0 N : Nat} {T0 : u_T} (hli : Cond.methodLink y.cls idx z ∈ cr_GW) (hins : Cond.instanceMethod z ∈ cr_GW) (hsel : Cond.selects z.cls z z ∈ cr_GW) (hbn : b < n) (hkd : cr_kd b = (c0 + 3, N)) (hcl : cr_cl[c0]? = some (z.cls, T0, N)) (hrm0 : cr_rm rm rmz nLz nS n n' nE) (hst : stk = As.reverse ++ .ref b :: st) (h8 : (st.map fun v => v.category).sum ≤ 8) (d : decode cc pc = .ok (.invokevirtual idx, 3)) (hT : T (.ref b :: As) I R (fun v I' R' => cr_V Γ (pc + 3) ls (v.toList ++ st) I' R' n')) : cr_V Γ pc ls stk I R n := by
  obtain ⟨⟨p, l, e, Rm, s, m, args, below, meth, c⟩, Q, D, g, ad, base, n0⟩ := Γ
  obtain ⟨hx, hb, hml, hown, hts, hK, hST, hlk, hrt, hA, hs0, hQ, hrm, hnm, hn0⟩ := h
  intro H locs la hP hz hS hl
  subst hst
  subst hn0
  subst hrm
  have hmet := hC l D g ad base hA _ I R _ hT
  obtain ⟨hz1, hz2, hz3⟩ := hZ
  obtain ⟨hr1, ⟨hr2, hr3⟩, ⟨hr4, hr5, hr6⟩, hr7, hr8⟩ := hrm0
  have ms1 := cr_sl_mono hr4
  have ms2 := cr_sl_mono hr5
  have ms3 := cr_sl_mono hr6
  have hgood : GoodIn cr_GW (Cond.code z cz nLz rz :: cr_GW) := cr_good (fun _ q => q) hz1
  have h8' : ((st.map (cr_tr ad)).map fun v => v.category).sum ≤ 8 := by
    rw [List.map_map]
    have : ((fun v : Value => v.category) ∘ cr_tr ad) = fun v => v.category := funext fun v => cr_tr_cat ad v
    rw [this]
    exact h8
  refine cr_behind (n := n) (n' := n') ⟨hr4, hr5⟩ (st0 := (As.reverse ++ .ref b :: st).map (cr_tr ad)) (rest := st.map (cr_tr ad)) (va_runV (As := As.map (cr_tr ad)) (b := ad b) (C := z.cls) (Ts := cr_GW) (own := y.cls) (nL := nL) ⟨hx, hb, hml, hown, hts⟩ hmet ⟨callB_of As.length hts hgood rfl hr2 hr3 (hts _ hz2) (hts _ hli) hz3 hr1, hts _ hins, hts _ hsel⟩ ⟨cr_blind, va_recv hK hP (ci := c0) (q0 := b) hcl (by rw [cr_wd_at hbn, cr_ce_obj hkd]), fun U hU hW => ⟨rfl, by rw [hU]; exact hP, fun q => by rw [hU]; exact hz q, va_K.moved hW.alike hK, hST.warm hS hU hW⟩⟩ rfl (by simp) (hl.1.trans hml) (by simp [List.map_reverse, cr_tr]) (lv_room h8') d ⟨by omega, by omega⟩) hS (fun v I' R' hv H1 locs1 hP1 hz1 hS1 => ?_)
  have := hv H1 locs1 la hP1 hz1 hS1 hl
  rw [List.map_append] at this
  have e : (v.map (cr_tr ad)).toList = v.toList.map (cr_tr ad) := by cases v <;> rfl
  rw [e]
  exact this
theorem cr_callIN (h : cr_Ok y cc nL ret rm K nS nE Γ) (hC : cr_C z cz nLz rz rmz n n' T) (hZ : cr_Z z cz nLz rz As.length) {b : Nat} (hy1 : z.name = "<init>") (hrz : rz = none) (hli : ∀ U : State, cr_STn U → va_Nw (.methodLinkNest y.cls idx z "CartRows") U) (hins : Cond.instanceMethod z ∈ cr_GW) (hrm0 : cr_rm rm rmz nLz nS n n' nE) (hst : stk = As.reverse ++ .ref b :: st) (h8 : (st.map fun v => v.category).sum ≤ 8) (d : decode cc pc = .ok (.invokespecial idx, 3)) (hT : T (.ref b :: As) I R (fun v I' R' => cr_V Γ (pc + 3) ls (v.toList ++ st) I' R' n')) : cr_V Γ pc ls stk I R n := by
  obtain ⟨⟨p, l, e, Rm, s, m, args, below, meth, c⟩, Q, D, g, ad, base, n0⟩ := Γ
  obtain ⟨hx, hb, hml, hown, hts, hK, hST, hlk, hrt, hA, hs0, hQ, hrm, hnm, hn0⟩ := h
  intro H locs la hP hz hS hl
  subst hst
  subst hn0
  subst hrm
  have hmet := hC l D g ad base hA _ I R _ hT
  obtain ⟨hz1, hz2, hz3⟩ := hZ
  obtain ⟨hr1, ⟨hr2, hr3⟩, ⟨hr4, hr5, hr6⟩, hr7, hr8⟩ := hrm0
  have ms1 := cr_sl_mono hr4
  have ms2 := cr_sl_mono hr5
  have ms3 := cr_sl_mono hr6
  have hgood : GoodIn cr_GW (Cond.code z cz nLz rz :: cr_GW) := cr_good (fun _ q => q) hz1
  have h8' : ((st.map (cr_tr ad)).map fun v => v.category).sum ≤ 8 := by
    rw [List.map_map]
    have : ((fun v : Value => v.category) ∘ cr_tr ad) = fun v => v.category := funext fun v => cr_tr_cat ad v
    rw [this]
    exact h8
  refine cr_behind (n := n) (n' := n') ⟨hr4, hr5⟩ (st0 := (As.reverse ++ .ref b :: st).map (cr_tr ad)) (rest := st.map (cr_tr ad)) (by subst hrz; exact va_runIN (As := As.map (cr_tr ad)) (b := ad b) (Ts := cr_GW) (own := y.cls) (nL := nL) ⟨hx, hb, hml, hown, hts⟩ hmet ⟨va_cnB As.length hts hgood rfl hr2 hr3 (hli s hST.2.2.2.2.2.1) (hts _ hz2) hz3 hr1, hy1, hts _ hins⟩ ⟨cr_blind, fun U hU hW => ⟨rfl, by rw [hU]; exact hP, fun q => by rw [hU]; exact hz q, va_K.moved hW.alike hK, hST.warm hS hU hW⟩⟩ rfl (by simp) (hl.1.trans hml) (by simp [List.map_reverse, cr_tr]) (lv_room h8') d ⟨by omega, by omega⟩) hS (fun v I' R' hv H1 locs1 hP1 hz1 hS1 => ?_)
  have := hv H1 locs1 la hP1 hz1 hS1 hl
  rw [List.map_append] at this
  have e : (v.map (cr_tr ad)).toList = v.toList.map (cr_tr ad) := by cases v <;> rfl
  rw [e]
  exact this
theorem cr_callI (h : cr_Ok y cc nL ret rm K nS nE Γ) (hC : cr_C z cz nLz rz rmz n n' T) (hZ : cr_Z z cz nLz rz As.length) {b : Nat} (hy1 : z.name = "<init>") (hrz : rz = none) (hli : Cond.methodLink y.cls idx z ∈ cr_GW) (hins : Cond.instanceMethod z ∈ cr_GW) (hrm0 : cr_rm rm rmz nLz nS n n' nE) (hst : stk = As.reverse ++ .ref b :: st) (h8 : (st.map fun v => v.category).sum ≤ 8) (d : decode cc pc = .ok (.invokespecial idx, 3)) (hT : T (.ref b :: As) I R (fun v I' R' => cr_V Γ (pc + 3) ls (v.toList ++ st) I' R' n')) : cr_V Γ pc ls stk I R n := by
  obtain ⟨⟨p, l, e, Rm, s, m, args, below, meth, c⟩, Q, D, g, ad, base, n0⟩ := Γ
  obtain ⟨hx, hb, hml, hown, hts, hK, hST, hlk, hrt, hA, hs0, hQ, hrm, hnm, hn0⟩ := h
  intro H locs la hP hz hS hl
  subst hst
  subst hn0
  subst hrm
  have hmet := hC l D g ad base hA _ I R _ hT
  obtain ⟨hz1, hz2, hz3⟩ := hZ
  obtain ⟨hr1, ⟨hr2, hr3⟩, ⟨hr4, hr5, hr6⟩, hr7, hr8⟩ := hrm0
  have ms1 := cr_sl_mono hr4
  have ms2 := cr_sl_mono hr5
  have ms3 := cr_sl_mono hr6
  have hgood : GoodIn cr_GW (Cond.code z cz nLz rz :: cr_GW) := cr_good (fun _ q => q) hz1
  have h8' : ((st.map (cr_tr ad)).map fun v => v.category).sum ≤ 8 := by
    rw [List.map_map]
    have : ((fun v : Value => v.category) ∘ cr_tr ad) = fun v => v.category := funext fun v => cr_tr_cat ad v
    rw [this]
    exact h8
  refine cr_behind (n := n) (n' := n') ⟨hr4, hr5⟩ (st0 := (As.reverse ++ .ref b :: st).map (cr_tr ad)) (rest := st.map (cr_tr ad)) (by subst hrz; exact va_runI (As := As.map (cr_tr ad)) (b := ad b) (Ts := cr_GW) (own := y.cls) (nL := nL) ⟨hx, hb, hml, hown, hts⟩ hmet ⟨callB_of As.length hts hgood rfl hr2 hr3 (hts _ hz2) (hts _ hli) hz3 hr1, hy1, hts _ hins⟩ ⟨cr_blind, fun U hU hW => ⟨rfl, by rw [hU]; exact hP, fun q => by rw [hU]; exact hz q, va_K.moved hW.alike hK, hST.warm hS hU hW⟩⟩ rfl (by simp) (hl.1.trans hml) (by simp [List.map_reverse, cr_tr]) (lv_room h8') d ⟨by omega, by omega⟩) hS (fun v I' R' hv H1 locs1 hP1 hz1 hS1 => ?_)
  have := hv H1 locs1 la hP1 hz1 hS1 hl
  rw [List.map_append] at this
  have e : (v.map (cr_tr ad)).toList = v.toList.map (cr_tr ad) := by cases v <;> rfl
  rw [e]
  exact this
theorem cr_objI (h : cr_Ok y cc nL ret rm K nS nE Γ) {b : Nat} (hw : Cond.methodLink y.cls idx objectInit ∈ cr_GW) (hins : Cond.instanceMethod objectInit ∈ cr_GW) (hco : Cond.code objectInit ⟨#[0xb1]⟩ 1 none ∈ cr_GW) (h8 : (st.map fun v => v.category).sum ≤ 8) (hf : 1 ≤ rm.frames ∧ 20 ≤ rm.locals) (d : decode cc pc = .ok (.invokespecial idx, 3)) (k : cr_V Γ (pc + 3) ls st I R n) : cr_V Γ pc ls (.ref b :: st) I R n := by
  obtain ⟨⟨p, l, e, Rm, s, m, args, below, meth, c⟩, Q, D, g, ad, base, n0⟩ := Γ
  obtain ⟨hx, hb, hml, hown, hts, hK, hST, hlk, hrt, hA, hs0, hQ, hrm, hnm, hn0⟩ := h
  intro H locs la hP hz hS hl
  subst hrm
  have h8' : ((st.map (cr_tr ad)).map fun v => v.category).sum ≤ 8 := by
    rw [List.map_map]
    have : ((fun v : Value => v.category) ∘ cr_tr ad) = fun v => v.category := funext fun v => cr_tr_cat ad v
    rw [this]
    exact h8
  exact W.objInit hx hb hown (hts _ hw) (hts _ hins) (hts _ hco) rfl (hl.1.trans rfl) (a := ad b) (rest := st.map (cr_tr ad)) rfl d hf.1 (by show 2 * 0 + _ + 12 ≤ _; omega) (k H locs la hP hz hS hl)
end CRC
