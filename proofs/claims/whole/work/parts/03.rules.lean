/-- what holds in the walk of a method -/
def cr_Ok (y : MethodName) (cc : ByteArray) (nL : Nat) (ret : Option FieldType) (rm : Room) (K : cr_K) (nS nE : Nat) (Γ : cr_G) : Prop := match Γ with
  | ((p, l, e, Rm, s, m, args, below, meth, c), (Q, D, g, ad, base, n0)) =>
    p.tables.exec = Jvm.exec ∧ c.code = cc ∧ c.maxLocals = nL ∧ s.vm.findClass y.cls = some m.cls ∧ (∀ w ∈ cr_GW, w.before args s = true) ∧ va_K D cr_cl (cr_ty g) s ∧ cr_ST ad base s s.heap ∧ meth.locks = false ∧ meth.sig.returnType = ret ∧ cr_ad ad base ∧ (n0 < 247 → s.heap.size = base + n0) ∧ Q = MQ below (cr_PQ D g ad base K nE) args s (nE - n0) (cr_sl nE - cr_sl n0) (fun q => base ≤ q) ∧ Rm = rm ∧ meth.name = y.name ∧ n0 = nS
/-- a method's start -/
def cr_PP (D : va_G) (g : cr_g) (ad : Nat → Nat) (base : Nat) (vs : List Value) (I : cr_I) (R : cr_R) (n : Nat) : Array Value → State → Prop := fun v U =>
  v = (vs.map (cr_tr ad)).toArray ∧ va_P D cr_cl (cr_wd ad g I R n) U.heap ∧ (n < 247 → U.heap.size = base + n) ∧ va_K D cr_cl (cr_ty g) U ∧ cr_ST ad base U U.heap
abbrev cr_T : Type := List Value → cr_I → cr_R → cr_K → Prop
/-- THE CONTRACT of a method: from every start at which T holds (of arguments, ints, references and what is wanted behind it) it returns, and what is wanted holds -/
def cr_C (y : MethodName) (cc : ByteArray) (nL : Nat) (ret : Option FieldType) (rm : Room) (n nE : Nat) (T : cr_T) : Prop :=
  ∀ (l : Launch) (D : va_G) (g : cr_g) (ad : Nat → Nat) (base : Nat), cr_ad ad base → ∀ (vs : List Value) (I : cr_I) (R : cr_R) (K : cr_K), T vs I R K →
    Met l y (Cond.code y cc nL ret :: cr_GW) rm (cr_PP D g ad base vs I R n) (cr_PQ D g ad base K nE) (nE - n) (cr_sl nE - cr_sl n) (fun q => base ≤ q)
/-- the locals at a method's start -/
def cr_sl1 (v : Value) : List Value := match v with
  | .long _ => [v, .null]
  | .double _ => [v, .null]
  | _ => [v]
def cr_ent (nL : Nat) (vs : List Value) : List Value := vs.flatMap cr_sl1 ++ List.replicate (nL - (vs.flatMap cr_sl1).length) .null
theorem cr_sl_len (ad : Nat → Nat) (vs : List Value) : (lg_sl (vs.map (cr_tr ad))).length = (vs.flatMap cr_sl1).length := by
  induction vs with
  | nil => rfl
  | cons v vs ih =>
    simp only [lg_sl, List.map_cons, List.flatMap_cons, List.length_append] at ih ⊢
    rw [ih]
    cases v <;> simp [cr_tr, cr_sl1, Value.category]
theorem cr_la_null {ad : Nat → Nat} {ls : List Value} {k : Nat} {q : Nat × Value} (h : q ∈ cr_la ad (ls ++ List.replicate k .null)) : ∃ v, ls[q.1]? = some v ∧ v ≠ .null ∧ q.2 = cr_tr ad v := by
  obtain ⟨v, h1, h2, h3⟩ := cr_la_of h
  by_cases hl : q.1 < ls.length
  · rw [List.getElem?_append_left hl] at h1
    exact ⟨v, h1, h2, h3⟩
  · rw [List.getElem?_append_right (by omega)] at h1
    have := List.mem_of_getElem? h1
    exact absurd (List.eq_of_mem_replicate this) h2
theorem cr_args_in {ad : Nat → Nat} : ∀ (vs : List Value) (i j : Nat) (v : Value), (vs.flatMap cr_sl1)[j]? = some v → v ≠ .null → (i + j, cr_tr ad v) ∈ lv_args i (vs.map (cr_tr ad))
  | [], i, j, v, h, _ => by simp at h
  | x :: vs, i, j, v, h, hn => by
    have step : ∀ (k : Nat), (k = 1 ∨ k = 2) → (cr_sl1 x).length = k → (if (cr_tr ad x).category = 2 then i + 2 else i + 1) = i + k → (∀ m, m < k → (cr_sl1 x)[m]? = some v → v ≠ .null → m = 0 ∧ v = x) → (i + j, cr_tr ad v) ∈ lv_args i ((x :: vs).map (cr_tr ad)) := by
      intro k hk hl hi hm
      rw [List.flatMap_cons] at h
      simp only [List.map_cons, lv_args]
      by_cases hj : j < k
      · rw [List.getElem?_append_left (by omega)] at h
        obtain ⟨e1, e2⟩ := hm j hj h hn
        subst e1; subst e2
        exact List.mem_cons_self
      · rw [List.getElem?_append_right (by omega), hl] at h
        have := cr_args_in (ad := ad) vs (i + k) (j - k) v h hn
        rw [show i + k + (j - k) = i + j by omega] at this
        rw [hi]
        exact List.mem_cons_of_mem _ this
    cases x with
    | long z => exact step 2 (Or.inr rfl) rfl rfl (fun m hm e hn => by
        match m, e with
        | 0, e => simp [cr_sl1] at e; exact ⟨rfl, e.symm⟩
        | 1, e => simp [cr_sl1] at e; exact absurd e.symm hn)
    | double z => exact step 2 (Or.inr rfl) rfl rfl (fun m hm e hn => by
        match m, e with
        | 0, e => simp [cr_sl1] at e; exact ⟨rfl, e.symm⟩
        | 1, e => simp [cr_sl1] at e; exact absurd e.symm hn)
    | int z => exact step 1 (Or.inl rfl) rfl rfl (fun m hm e hn => by
        match m, e with
        | 0, e => simp [cr_sl1] at e; exact ⟨rfl, e.symm⟩)
    | float z => exact step 1 (Or.inl rfl) rfl rfl (fun m hm e hn => by
        match m, e with
        | 0, e => simp [cr_sl1] at e; exact ⟨rfl, e.symm⟩)
    | null => exact step 1 (Or.inl rfl) rfl rfl (fun m hm e hn => by
        match m, e with
        | 0, e => simp [cr_sl1] at e; exact ⟨rfl, e.symm⟩)
    | ref z => exact step 1 (Or.inl rfl) rfl rfl (fun m hm e hn => by
        match m, e with
        | 0, e => simp [cr_sl1] at e; exact ⟨rfl, e.symm⟩)
    | retAddr z => exact step 1 (Or.inl rfl) rfl rfl (fun m hm e hn => by
        match m, e with
        | 0, e => simp [cr_sl1] at e; exact ⟨rfl, e.symm⟩)
theorem cr_ofW {l : Launch} {y : MethodName} {ws ws' : List Cond} {rm : Room} {Pc : Array Value → State → Prop} {Qc : Array Value → State → Outcome → State → Prop} {mc ms : Nat} {free : Addr → Prop} {cc : ByteArray} {maxL : Nat} {ret : Option FieldType}
    (hy : plainFor y = true) (hw : ws = Cond.code y cc maxL ret :: ws')
    (body : ∀ p e s m args below meth c s₁, BodyLoose p l y (headSpec ws rm) cc maxL ret e s m args below meth c s₁ → c.maxLocals = maxL → Pc args s →
      W p l e (headSpec ws rm).room s m args below meth c s.heap [] 0 0 (MQ below Qc args s mc ms free) (entryFrame m args maxL)) : Met l y ws rm Pc Qc mc ms free := by
  refine MetFree.of_bodySF (code := cc) (maxLocals := maxL) (ret := ret) hy ?_ ?_
  · intro args s m h hn
    obtain ⟨meth, c, h1, h2, h3, h4, h5, h6, -, -⟩ := Cond.code_spec hn (atoms_spec (ws := ws) h _ (by rw [hw]; exact List.mem_cons_self))
    exact ⟨meth, c, h1, h2, h3, h4, h5, h6⟩
  · intro p e s m args below meth c s₁ B hml hP _
    have hh0 : s₁.heap = s.heap := by rw [B.state]; rfl
    obtain ⟨t, a1, o, b1, b2, b3⟩ := body p e s m args below meth c s₁ B hml hP s₁ hh0 (Stand.of_body B)
    exact ⟨t, o, a1, b1, b2, ⟨b3.1, b3.2⟩⟩
/-- a contract out of a walk from the method's entry -/
theorem cr_C.of {y : MethodName} {cc : ByteArray} {nL : Nat} {ret : Option FieldType} {rm : Room} {n nE : Nat} {T : cr_T} (hy : plainFor y = true) (hL : ∀ vs I R K, T vs I R K → (vs.flatMap cr_sl1).length ≤ nL)
    (body : ∀ (Γ : cr_G) (K : cr_K), cr_Ok y cc nL ret rm K n nE Γ → ∀ (vs : List Value) (I : cr_I) (R : cr_R), T vs I R K → cr_V Γ 0 (cr_ent nL vs) [] I R n) : cr_C y cc nL ret rm n nE T := by
  intro l D g ad base hA vs I R K hT
  refine cr_ofW (cc := cc) (maxL := nL) (ret := ret) hy rfl ?_
  intro p e s m args below meth c s₁ B hml hv
  obtain ⟨rfl, hP, hz, hK, hST⟩ := hv
  have hts := atoms_spec (ws := Cond.code y cc nL ret :: cr_GW) B.pre
  have hown : s.vm.findClass y.cls = some m.cls := findClass_of_methodNamed B.named
  have hnm : meth.name = y.name := (name_of_methodNamed B.named B.method).1
  have ok : cr_Ok y cc nL ret rm K n nE ((p, l, e, (headSpec (Cond.code y cc nL ret :: cr_GW) rm).room, s, m, (vs.map (cr_tr ad)).toArray, below, meth, c), (MQ below (cr_PQ D g ad base K nE) (vs.map (cr_tr ad)).toArray s (nE - n) (cr_sl nE - cr_sl n) (fun q => base ≤ q), D, g, ad, base, n)) :=
    ⟨B.exec, B.bytes, hml, hown, fun w hw => hts w (List.mem_cons_of_mem _ hw), hK, hST, B.notSynchronized, B.returns, hA, hz, rfl, rfl, hnm, rfl⟩
  have hb := body _ K ok vs I R hT
  have hlen := cr_sl_len ad vs
  have hl := lv_entry (vs.map (cr_tr ad)) (n := nL) (by rw [hlen]; exact hL vs I R K hT)
  rw [lg_entry_eq]
  have h2 := hb s.heap [] _ hP hz va_S.rf (by
    rw [hml]
    refine cr_mono hl fun q hq => ?_
    obtain ⟨v, h1, h2, h3⟩ := cr_la_null hq
    have := cr_args_in (ad := ad) vs 0 q.1 v h1 h2
    rw [Nat.zero_add, ← h3] at this
    exact this)
  rw [Nat.sub_self, Nat.sub_self] at h2
  exact h2
section CRR
variable {y : MethodName} {cc : ByteArray} {nL : Nat} {ret : Option FieldType} {rm : Room} {K : cr_K} {nS nE : Nat} {Γ : cr_G} {pc : Nat} {ls st : List Value} {I : cr_I} {R : cr_R} {n : Nat}
theorem cr_iconst (h : cr_Ok y cc nL ret rm K nS nE Γ) {i : Int} {v : Int32} (hv : Int32.ofInt i = v) (d : decode cc pc = .ok (.iconst i, 1)) (k : cr_V Γ (pc + 1) ls (.int v :: st) I R n) : cr_V Γ pc ls st I R n := by
  obtain ⟨⟨p, l, e, Rm, s, m, args, below, meth, c⟩, Q, D, g, ad, base, n0⟩ := Γ
  obtain ⟨hx, hb, hml, hown, hts, hK, hST, hlk, hrt, hA, hs0, hQ, hrm, hnm, hn0⟩ := h
  intro H locs la hP hz hS hl
  exact lv_iconst hx hb d hv (k H locs la hP hz hS hl)
theorem cr_bipush (h : cr_Ok y cc nL ret rm K nS nE Γ) {i : Int} {v : Int32} (hv : (Int8.ofInt i).toInt32 = v) (d : decode cc pc = .ok (.bipush i, 2)) (k : cr_V Γ (pc + 2) ls (.int v :: st) I R n) : cr_V Γ pc ls st I R n := by
  obtain ⟨⟨p, l, e, Rm, s, m, args, below, meth, c⟩, Q, D, g, ad, base, n0⟩ := Γ
  obtain ⟨hx, hb, hml, hown, hts, hK, hST, hlk, hrt, hA, hs0, hQ, hrm, hnm, hn0⟩ := h
  intro H locs la hP hz hS hl
  exact lv_bipush hx hb d hv (k H locs la hP hz hS hl)
theorem cr_sipush (h : cr_Ok y cc nL ret rm K nS nE Γ) {i : Int} {v : Int32} (hv : (Int16.ofInt i).toInt32 = v) (d : decode cc pc = .ok (.sipush i, 3)) (k : cr_V Γ (pc + 3) ls (.int v :: st) I R n) : cr_V Γ pc ls st I R n := by
  obtain ⟨⟨p, l, e, Rm, s, m, args, below, meth, c⟩, Q, D, g, ad, base, n0⟩ := Γ
  obtain ⟨hx, hb, hml, hown, hts, hK, hST, hlk, hrt, hA, hs0, hQ, hrm, hnm, hn0⟩ := h
  intro H locs la hP hz hS hl
  exact lv_sipush hx hb d hv (k H locs la hP hz hS hl)
theorem cr_lconst (h : cr_Ok y cc nL ret rm K nS nE Γ) {i : Fin 2} {v : Int64} (hv : Int64.ofNat (i : Nat) = v) (d : decode cc pc = .ok (.lconst i, 1)) (k : cr_V Γ (pc + 1) ls (.long v :: st) I R n) : cr_V Γ pc ls st I R n := by
  obtain ⟨⟨p, l, e, Rm, s, m, args, below, meth, c⟩, Q, D, g, ad, base, n0⟩ := Γ
  obtain ⟨hx, hb, hml, hown, hts, hK, hST, hlk, hrt, hA, hs0, hQ, hrm, hnm, hn0⟩ := h
  intro H locs la hP hz hS hl
  exact lv_lconst hx hb d hv (k H locs la hP hz hS hl)
theorem cr_ldc (h : cr_Ok y cc nL ret rm K nS nE Γ) {i : Nat} {v : Int32} (hw : Cond.constant y.cls i v ∈ cr_GW) (d : decode cc pc = .ok (.ldc i, 2)) (k : cr_V Γ (pc + 2) ls (.int v :: st) I R n) : cr_V Γ pc ls st I R n := by
  obtain ⟨⟨p, l, e, Rm, s, m, args, below, meth, c⟩, Q, D, g, ad, base, n0⟩ := Γ
  obtain ⟨hx, hb, hml, hown, hts, hK, hST, hlk, hrt, hA, hs0, hQ, hrm, hnm, hn0⟩ := h
  intro H locs la hP hz hS hl
  exact lv_ldc hx hb hown (hts _ hw) d (k H locs la hP hz hS hl)
theorem cr_ldcw (h : cr_Ok y cc nL ret rm K nS nE Γ) {i : Nat} {v : Int32} (hw : Cond.constant y.cls i v ∈ cr_GW) (d : decode cc pc = .ok (.ldc_w i, 3)) (k : cr_V Γ (pc + 3) ls (.int v :: st) I R n) : cr_V Γ pc ls st I R n := by
  obtain ⟨⟨p, l, e, Rm, s, m, args, below, meth, c⟩, Q, D, g, ad, base, n0⟩ := Γ
  obtain ⟨hx, hb, hml, hown, hts, hK, hST, hlk, hrt, hA, hs0, hQ, hrm, hnm, hn0⟩ := h
  intro H locs la hP hz hS hl
  exact lv_ldcw hx hb hown (hts _ hw) d (k H locs la hP hz hS hl)
theorem cr_ldc2 (h : cr_Ok y cc nL ret rm K nS nE Γ) {i : Nat} {v : Int64} (hw : Cond.constantLong y.cls i v ∈ cr_GW) (d : decode cc pc = .ok (.ldc2_w i, 3)) (k : cr_V Γ (pc + 3) ls (.long v :: st) I R n) : cr_V Γ pc ls st I R n := by
  obtain ⟨⟨p, l, e, Rm, s, m, args, below, meth, c⟩, Q, D, g, ad, base, n0⟩ := Γ
  obtain ⟨hx, hb, hml, hown, hts, hK, hST, hlk, hrt, hA, hs0, hQ, hrm, hnm, hn0⟩ := h
  intro H locs la hP hz hS hl
  exact lv_ldc2 hx hb hown (hts _ hw) d (k H locs la hP hz hS hl)
theorem cr_iload_n (h : cr_Ok y cc nL ret rm K nS nE Γ) {i : Fin 4} {j : Nat} {x : Int32} (hi : (i : Nat) = j) (hv : ls[j]? = some (.int x)) (d : decode cc pc = .ok (.iload_n i, 1)) (k : cr_V Γ (pc + 1) ls (.int x :: st) I R n) : cr_V Γ pc ls st I R n := by
  obtain ⟨⟨p, l, e, Rm, s, m, args, below, meth, c⟩, Q, D, g, ad, base, n0⟩ := Γ
  obtain ⟨hx, hb, hml, hown, hts, hK, hST, hlk, hrt, hA, hs0, hQ, hrm, hnm, hn0⟩ := h
  intro H locs la hP hz hS hl
  exact lv_iload_n hx hb d hi (hl.2.2 _ (cr_la_in hv (fun q => by cases q))) (k H locs la hP hz hS hl)
theorem cr_iload (h : cr_Ok y cc nL ret rm K nS nE Γ) {i : Nat} {x : Int32} (hv : ls[i]? = some (.int x)) (d : decode cc pc = .ok (.iload i, 2)) (k : cr_V Γ (pc + 2) ls (.int x :: st) I R n) : cr_V Γ pc ls st I R n := by
  obtain ⟨⟨p, l, e, Rm, s, m, args, below, meth, c⟩, Q, D, g, ad, base, n0⟩ := Γ
  obtain ⟨hx, hb, hml, hown, hts, hK, hST, hlk, hrt, hA, hs0, hQ, hrm, hnm, hn0⟩ := h
  intro H locs la hP hz hS hl
  exact lv_iload hx hb d (hl.2.2 _ (cr_la_in hv (fun q => by cases q))) (k H locs la hP hz hS hl)
theorem cr_lload_n (h : cr_Ok y cc nL ret rm K nS nE Γ) {i : Fin 4} {j : Nat} {x : Int64} (hi : (i : Nat) = j) (hv : ls[j]? = some (.long x)) (d : decode cc pc = .ok (.lload_n i, 1)) (k : cr_V Γ (pc + 1) ls (.long x :: st) I R n) : cr_V Γ pc ls st I R n := by
  obtain ⟨⟨p, l, e, Rm, s, m, args, below, meth, c⟩, Q, D, g, ad, base, n0⟩ := Γ
  obtain ⟨hx, hb, hml, hown, hts, hK, hST, hlk, hrt, hA, hs0, hQ, hrm, hnm, hn0⟩ := h
  intro H locs la hP hz hS hl
  exact lv_lload_n hx hb d hi (hl.2.2 _ (cr_la_in hv (fun q => by cases q))) (k H locs la hP hz hS hl)
theorem cr_lload (h : cr_Ok y cc nL ret rm K nS nE Γ) {i : Nat} {x : Int64} (hv : ls[i]? = some (.long x)) (d : decode cc pc = .ok (.lload i, 2)) (k : cr_V Γ (pc + 2) ls (.long x :: st) I R n) : cr_V Γ pc ls st I R n := by
  obtain ⟨⟨p, l, e, Rm, s, m, args, below, meth, c⟩, Q, D, g, ad, base, n0⟩ := Γ
  obtain ⟨hx, hb, hml, hown, hts, hK, hST, hlk, hrt, hA, hs0, hQ, hrm, hnm, hn0⟩ := h
  intro H locs la hP hz hS hl
  exact lv_lload hx hb d (hl.2.2 _ (cr_la_in hv (fun q => by cases q))) (k H locs la hP hz hS hl)
theorem cr_aload_n (h : cr_Ok y cc nL ret rm K nS nE Γ) {i : Fin 4} {j : Nat} {x : Nat} (hi : (i : Nat) = j) (hv : ls[j]? = some (.ref x)) (d : decode cc pc = .ok (.aload_n i, 1)) (k : cr_V Γ (pc + 1) ls (.ref x :: st) I R n) : cr_V Γ pc ls st I R n := by
  obtain ⟨⟨p, l, e, Rm, s, m, args, below, meth, c⟩, Q, D, g, ad, base, n0⟩ := Γ
  obtain ⟨hx, hb, hml, hown, hts, hK, hST, hlk, hrt, hA, hs0, hQ, hrm, hnm, hn0⟩ := h
  intro H locs la hP hz hS hl
  exact lv_aload_n hx hb d hi (hl.2.2 _ (cr_la_in hv (fun q => by cases q))) (k H locs la hP hz hS hl)
theorem cr_aload (h : cr_Ok y cc nL ret rm K nS nE Γ) {i : Nat} {x : Nat} (hv : ls[i]? = some (.ref x)) (d : decode cc pc = .ok (.aload i, 2)) (k : cr_V Γ (pc + 2) ls (.ref x :: st) I R n) : cr_V Γ pc ls st I R n := by
  obtain ⟨⟨p, l, e, Rm, s, m, args, below, meth, c⟩, Q, D, g, ad, base, n0⟩ := Γ
  obtain ⟨hx, hb, hml, hown, hts, hK, hST, hlk, hrt, hA, hs0, hQ, hrm, hnm, hn0⟩ := h
  intro H locs la hP hz hS hl
  exact lv_aload hx hb d (hl.2.2 _ (cr_la_in hv (fun q => by cases q))) (k H locs la hP hz hS hl)
theorem cr_istore_n (h : cr_Ok y cc nL ret rm K nS nE Γ) {i : Fin 4} {j : Nat} (hi : (i : Nat) = j) {x : Int32} (hj : j < nL) (hn : cr_nl ls j = true) (d : decode cc pc = .ok (.istore_n i, 1)) (k : cr_V Γ (pc + 1) (ls.set j (.int x)) st I R n) : cr_V Γ pc ls (.int x :: st) I R n := by
  obtain ⟨⟨p, l, e, Rm, s, m, args, below, meth, c⟩, Q, D, g, ad, base, n0⟩ := Γ
  obtain ⟨hx, hb, hml, hown, hts, hK, hST, hlk, hrt, hA, hs0, hQ, hrm, hnm, hn0⟩ := h
  intro H locs la hP hz hS hl
  exact lv_istore_n hx hb d hi hl (by rw [hml]; exact hj) rfl (fun ls' hl' => k H locs ls' hP hz hS (cr_mono hl' (cr_la_set hn)))
theorem cr_istore (h : cr_Ok y cc nL ret rm K nS nE Γ) {j : Nat} {x : Int32} (hj : j < nL) (hn : cr_nl ls j = true) (d : decode cc pc = .ok (.istore j, 2)) (k : cr_V Γ (pc + 2) (ls.set j (.int x)) st I R n) : cr_V Γ pc ls (.int x :: st) I R n := by
  obtain ⟨⟨p, l, e, Rm, s, m, args, below, meth, c⟩, Q, D, g, ad, base, n0⟩ := Γ
  obtain ⟨hx, hb, hml, hown, hts, hK, hST, hlk, hrt, hA, hs0, hQ, hrm, hnm, hn0⟩ := h
  intro H locs la hP hz hS hl
  exact lv_istore hx hb d hl (by rw [hml]; exact hj) rfl (fun ls' hl' => k H locs ls' hP hz hS (cr_mono hl' (cr_la_set hn)))
theorem cr_astore_n (h : cr_Ok y cc nL ret rm K nS nE Γ) {i : Fin 4} {j : Nat} (hi : (i : Nat) = j) {x : Nat} (hj : j < nL) (hn : cr_nl ls j = true) (d : decode cc pc = .ok (.astore_n i, 1)) (k : cr_V Γ (pc + 1) (ls.set j (.ref x)) st I R n) : cr_V Γ pc ls (.ref x :: st) I R n := by
  obtain ⟨⟨p, l, e, Rm, s, m, args, below, meth, c⟩, Q, D, g, ad, base, n0⟩ := Γ
  obtain ⟨hx, hb, hml, hown, hts, hK, hST, hlk, hrt, hA, hs0, hQ, hrm, hnm, hn0⟩ := h
  intro H locs la hP hz hS hl
  exact lv_astore_n hx hb d hi hl (by rw [hml]; exact hj) rfl (fun ls' hl' => k H locs ls' hP hz hS (cr_mono hl' (cr_la_set hn)))
theorem cr_astore (h : cr_Ok y cc nL ret rm K nS nE Γ) {j : Nat} {x : Nat} (hj : j < nL) (hn : cr_nl ls j = true) (d : decode cc pc = .ok (.astore j, 2)) (k : cr_V Γ (pc + 2) (ls.set j (.ref x)) st I R n) : cr_V Γ pc ls (.ref x :: st) I R n := by
  obtain ⟨⟨p, l, e, Rm, s, m, args, below, meth, c⟩, Q, D, g, ad, base, n0⟩ := Γ
  obtain ⟨hx, hb, hml, hown, hts, hK, hST, hlk, hrt, hA, hs0, hQ, hrm, hnm, hn0⟩ := h
  intro H locs la hP hz hS hl
  exact lv_astore hx hb d hl (by rw [hml]; exact hj) rfl (fun ls' hl' => k H locs ls' hP hz hS (cr_mono hl' (cr_la_set hn)))
theorem cr_iinc (h : cr_Ok y cc nL ret rm K nS nE Γ) {j : Nat} {i : Int} {x v : Int32} (hv : ls[j]? = some (.int x)) (he : x + Int32.ofInt i = v) (hj : j < nL) (hn : cr_nl ls j = true) (d : decode cc pc = .ok (.iinc j i, 3)) (k : cr_V Γ (pc + 3) (ls.set j (.int v)) st I R n) : cr_V Γ pc ls st I R n := by
  obtain ⟨⟨p, l, e, Rm, s, m, args, below, meth, c⟩, Q, D, g, ad, base, n0⟩ := Γ
  obtain ⟨hx, hb, hml, hown, hts, hK, hST, hlk, hrt, hA, hs0, hQ, hrm, hnm, hn0⟩ := h
  intro H locs la hP hz hS hl
  obtain ⟨k0, hk0⟩ := List.getElem?_of_mem (cr_la_in (ad := ad) hv (fun q => by cases q))
  exact lv_iinc hx hb d hl (k := k0) (x := x) hk0 he (by rw [hml]; exact hj) rfl (fun ls' hl' => k H locs ls' hP hz hS (cr_mono hl' (cr_la_set (v := .int v) hn)))
theorem cr_iadd (h : cr_Ok y cc nL ret rm K nS nE Γ) {x0 y0 : Int32}  (d : decode cc pc = .ok (.iadd, 1)) (k : cr_V Γ (pc + 1) ls (.int (x0 + y0) :: st) I R n) : cr_V Γ pc ls (.int y0 :: .int x0 :: st) I R n := by
  obtain ⟨⟨p, l, e, Rm, s, m, args, below, meth, c⟩, Q, D, g, ad, base, n0⟩ := Γ
  obtain ⟨hx, hb, hml, hown, hts, hK, hST, hlk, hrt, hA, hs0, hQ, hrm, hnm, hn0⟩ := h
  intro H locs la hP hz hS hl
  exact lv_iadd hx hb d (k H locs la hP hz hS hl)
theorem cr_isub (h : cr_Ok y cc nL ret rm K nS nE Γ) {x0 y0 : Int32}  (d : decode cc pc = .ok (.isub, 1)) (k : cr_V Γ (pc + 1) ls (.int (x0 - y0) :: st) I R n) : cr_V Γ pc ls (.int y0 :: .int x0 :: st) I R n := by
  obtain ⟨⟨p, l, e, Rm, s, m, args, below, meth, c⟩, Q, D, g, ad, base, n0⟩ := Γ
  obtain ⟨hx, hb, hml, hown, hts, hK, hST, hlk, hrt, hA, hs0, hQ, hrm, hnm, hn0⟩ := h
  intro H locs la hP hz hS hl
  exact lv_isub hx hb d (k H locs la hP hz hS hl)
theorem cr_imul (h : cr_Ok y cc nL ret rm K nS nE Γ) {x0 y0 : Int32}  (d : decode cc pc = .ok (.imul, 1)) (k : cr_V Γ (pc + 1) ls (.int (x0 * y0) :: st) I R n) : cr_V Γ pc ls (.int y0 :: .int x0 :: st) I R n := by
  obtain ⟨⟨p, l, e, Rm, s, m, args, below, meth, c⟩, Q, D, g, ad, base, n0⟩ := Γ
  obtain ⟨hx, hb, hml, hown, hts, hK, hST, hlk, hrt, hA, hs0, hQ, hrm, hnm, hn0⟩ := h
  intro H locs la hP hz hS hl
  exact lv_imul hx hb d (k H locs la hP hz hS hl)
theorem cr_iand (h : cr_Ok y cc nL ret rm K nS nE Γ) {x0 y0 : Int32}  (d : decode cc pc = .ok (.iand, 1)) (k : cr_V Γ (pc + 1) ls (.int (x0 &&& y0) :: st) I R n) : cr_V Γ pc ls (.int y0 :: .int x0 :: st) I R n := by
  obtain ⟨⟨p, l, e, Rm, s, m, args, below, meth, c⟩, Q, D, g, ad, base, n0⟩ := Γ
  obtain ⟨hx, hb, hml, hown, hts, hK, hST, hlk, hrt, hA, hs0, hQ, hrm, hnm, hn0⟩ := h
  intro H locs la hP hz hS hl
  exact lv_iand hx hb d (k H locs la hP hz hS hl)
theorem cr_ior (h : cr_Ok y cc nL ret rm K nS nE Γ) {x0 y0 : Int32}  (d : decode cc pc = .ok (.ior, 1)) (k : cr_V Γ (pc + 1) ls (.int (x0 ||| y0) :: st) I R n) : cr_V Γ pc ls (.int y0 :: .int x0 :: st) I R n := by
  obtain ⟨⟨p, l, e, Rm, s, m, args, below, meth, c⟩, Q, D, g, ad, base, n0⟩ := Γ
  obtain ⟨hx, hb, hml, hown, hts, hK, hST, hlk, hrt, hA, hs0, hQ, hrm, hnm, hn0⟩ := h
  intro H locs la hP hz hS hl
  exact lv_ior hx hb d (k H locs la hP hz hS hl)
theorem cr_ixor (h : cr_Ok y cc nL ret rm K nS nE Γ) {x0 y0 : Int32}  (d : decode cc pc = .ok (.ixor, 1)) (k : cr_V Γ (pc + 1) ls (.int (x0 ^^^ y0) :: st) I R n) : cr_V Γ pc ls (.int y0 :: .int x0 :: st) I R n := by
  obtain ⟨⟨p, l, e, Rm, s, m, args, below, meth, c⟩, Q, D, g, ad, base, n0⟩ := Γ
  obtain ⟨hx, hb, hml, hown, hts, hK, hST, hlk, hrt, hA, hs0, hQ, hrm, hnm, hn0⟩ := h
  intro H locs la hP hz hS hl
  exact lv_ixor hx hb d (k H locs la hP hz hS hl)
theorem cr_idiv (h : cr_Ok y cc nL ret rm K nS nE Γ) {x0 y0 : Int32} (hne : ¬ y0 = 0) (d : decode cc pc = .ok (.idiv, 1)) (k : cr_V Γ (pc + 1) ls (.int (x0 / y0) :: st) I R n) : cr_V Γ pc ls (.int y0 :: .int x0 :: st) I R n := by
  obtain ⟨⟨p, l, e, Rm, s, m, args, below, meth, c⟩, Q, D, g, ad, base, n0⟩ := Γ
  obtain ⟨hx, hb, hml, hown, hts, hK, hST, hlk, hrt, hA, hs0, hQ, hrm, hnm, hn0⟩ := h
  intro H locs la hP hz hS hl
  exact lv_idiv hx hb d hne (k H locs la hP hz hS hl)
theorem cr_irem (h : cr_Ok y cc nL ret rm K nS nE Γ) {x0 y0 : Int32} (hne : ¬ y0 = 0) (d : decode cc pc = .ok (.irem, 1)) (k : cr_V Γ (pc + 1) ls (.int (x0 - x0 / y0 * y0) :: st) I R n) : cr_V Γ pc ls (.int y0 :: .int x0 :: st) I R n := by
  obtain ⟨⟨p, l, e, Rm, s, m, args, below, meth, c⟩, Q, D, g, ad, base, n0⟩ := Γ
  obtain ⟨hx, hb, hml, hown, hts, hK, hST, hlk, hrt, hA, hs0, hQ, hrm, hnm, hn0⟩ := h
  intro H locs la hP hz hS hl
  exact lv_irem hx hb d hne (k H locs la hP hz hS hl)
theorem cr_ishl (h : cr_Ok y cc nL ret rm K nS nE Γ) {x0 y0 : Int32}  (d : decode cc pc = .ok (.ishl, 1)) (k : cr_V Γ (pc + 1) ls (.int (x0 <<< (y0 &&& 31)) :: st) I R n) : cr_V Γ pc ls (.int y0 :: .int x0 :: st) I R n := by
  obtain ⟨⟨p, l, e, Rm, s, m, args, below, meth, c⟩, Q, D, g, ad, base, n0⟩ := Γ
  obtain ⟨hx, hb, hml, hown, hts, hK, hST, hlk, hrt, hA, hs0, hQ, hrm, hnm, hn0⟩ := h
  intro H locs la hP hz hS hl
  exact lv_ishl hx hb d (k H locs la hP hz hS hl)
theorem cr_ishr (h : cr_Ok y cc nL ret rm K nS nE Γ) {x0 y0 : Int32}  (d : decode cc pc = .ok (.ishr, 1)) (k : cr_V Γ (pc + 1) ls (.int (x0 >>> (y0 &&& 31)) :: st) I R n) : cr_V Γ pc ls (.int y0 :: .int x0 :: st) I R n := by
  obtain ⟨⟨p, l, e, Rm, s, m, args, below, meth, c⟩, Q, D, g, ad, base, n0⟩ := Γ
  obtain ⟨hx, hb, hml, hown, hts, hK, hST, hlk, hrt, hA, hs0, hQ, hrm, hnm, hn0⟩ := h
  intro H locs la hP hz hS hl
  exact lv_ishr hx hb d (k H locs la hP hz hS hl)
theorem cr_iushr (h : cr_Ok y cc nL ret rm K nS nE Γ) {x0 y0 : Int32}  (d : decode cc pc = .ok (.iushr, 1)) (k : cr_V Γ (pc + 1) ls (.int (x0.toUInt32 >>> (y0.toUInt32 &&& Int32.toUInt32 31)).toInt32 :: st) I R n) : cr_V Γ pc ls (.int y0 :: .int x0 :: st) I R n := by
  obtain ⟨⟨p, l, e, Rm, s, m, args, below, meth, c⟩, Q, D, g, ad, base, n0⟩ := Γ
  obtain ⟨hx, hb, hml, hown, hts, hK, hST, hlk, hrt, hA, hs0, hQ, hrm, hnm, hn0⟩ := h
  intro H locs la hP hz hS hl
  exact lv_iushr hx hb d rfl (k H locs la hP hz hS hl)
theorem cr_land (h : cr_Ok y cc nL ret rm K nS nE Γ) {x0 y0 : Int64}  (d : decode cc pc = .ok (.land, 1)) (k : cr_V Γ (pc + 1) ls (.long (x0 &&& y0) :: st) I R n) : cr_V Γ pc ls (.long y0 :: .long x0 :: st) I R n := by
  obtain ⟨⟨p, l, e, Rm, s, m, args, below, meth, c⟩, Q, D, g, ad, base, n0⟩ := Γ
  obtain ⟨hx, hb, hml, hown, hts, hK, hST, hlk, hrt, hA, hs0, hQ, hrm, hnm, hn0⟩ := h
  intro H locs la hP hz hS hl
  exact lv_land hx hb d (k H locs la hP hz hS hl)
theorem cr_lor (h : cr_Ok y cc nL ret rm K nS nE Γ) {x0 y0 : Int64}  (d : decode cc pc = .ok (.lor, 1)) (k : cr_V Γ (pc + 1) ls (.long (x0 ||| y0) :: st) I R n) : cr_V Γ pc ls (.long y0 :: .long x0 :: st) I R n := by
  obtain ⟨⟨p, l, e, Rm, s, m, args, below, meth, c⟩, Q, D, g, ad, base, n0⟩ := Γ
  obtain ⟨hx, hb, hml, hown, hts, hK, hST, hlk, hrt, hA, hs0, hQ, hrm, hnm, hn0⟩ := h
  intro H locs la hP hz hS hl
  exact lv_lor hx hb d (k H locs la hP hz hS hl)
theorem cr_lcmp (h : cr_Ok y cc nL ret rm K nS nE Γ) {x0 y0 : Int64} (d : decode cc pc = .ok (.lcmp, 1)) (k : cr_V Γ (pc + 1) ls (.int (lg_cmp x0 y0) :: st) I R n) : cr_V Γ pc ls (.long y0 :: .long x0 :: st) I R n := by
  obtain ⟨⟨p, l, e, Rm, s, m, args, below, meth, c⟩, Q, D, g, ad, base, n0⟩ := Γ
  obtain ⟨hx, hb, hml, hown, hts, hK, hST, hlk, hrt, hA, hs0, hQ, hrm, hnm, hn0⟩ := h
  intro H locs la hP hz hS hl
  exact W.lcmp hx hb d (k H locs la hP hz hS hl)
theorem cr_ineg (h : cr_Ok y cc nL ret rm K nS nE Γ) {x0 : Int32} (d : decode cc pc = .ok (.ineg, 1)) (k : cr_V Γ (pc + 1) ls (.int (-x0) :: st) I R n) : cr_V Γ pc ls (.int x0 :: st) I R n := by
  obtain ⟨⟨p, l, e, Rm, s, m, args, below, meth, c⟩, Q, D, g, ad, base, n0⟩ := Γ
  obtain ⟨hx, hb, hml, hown, hts, hK, hST, hlk, hrt, hA, hs0, hQ, hrm, hnm, hn0⟩ := h
  intro H locs la hP hz hS hl
  exact lv_ineg hx hb d (k H locs la hP hz hS hl)
theorem cr_i2l (h : cr_Ok y cc nL ret rm K nS nE Γ) {x0 : Int32} (d : decode cc pc = .ok (.i2l, 1)) (k : cr_V Γ (pc + 1) ls (.long x0.toInt64 :: st) I R n) : cr_V Γ pc ls (.int x0 :: st) I R n := by
  obtain ⟨⟨p, l, e, Rm, s, m, args, below, meth, c⟩, Q, D, g, ad, base, n0⟩ := Γ
  obtain ⟨hx, hb, hml, hown, hts, hK, hST, hlk, hrt, hA, hs0, hQ, hrm, hnm, hn0⟩ := h
  intro H locs la hP hz hS hl
  exact lv_i2l hx hb d rfl (k H locs la hP hz hS hl)
theorem cr_l2i (h : cr_Ok y cc nL ret rm K nS nE Γ) {x0 : Int64} (d : decode cc pc = .ok (.l2i, 1)) (k : cr_V Γ (pc + 1) ls (.int x0.toInt32 :: st) I R n) : cr_V Γ pc ls (.long x0 :: st) I R n := by
  obtain ⟨⟨p, l, e, Rm, s, m, args, below, meth, c⟩, Q, D, g, ad, base, n0⟩ := Γ
  obtain ⟨hx, hb, hml, hown, hts, hK, hST, hlk, hrt, hA, hs0, hQ, hrm, hnm, hn0⟩ := h
  intro H locs la hP hz hS hl
  exact lv_l2i hx hb d rfl (k H locs la hP hz hS hl)
theorem cr_i2c (h : cr_Ok y cc nL ret rm K nS nE Γ) {x0 : Int32} (d : decode cc pc = .ok (.i2c, 1)) (k : cr_V Γ (pc + 1) ls (.int (x0.toUInt32 % 65536).toInt32 :: st) I R n) : cr_V Γ pc ls (.int x0 :: st) I R n := by
  obtain ⟨⟨p, l, e, Rm, s, m, args, below, meth, c⟩, Q, D, g, ad, base, n0⟩ := Γ
  obtain ⟨hx, hb, hml, hown, hts, hK, hST, hlk, hrt, hA, hs0, hQ, hrm, hnm, hn0⟩ := h
  intro H locs la hP hz hS hl
  exact lv_i2c hx hb d rfl (k H locs la hP hz hS hl)
theorem cr_dup (h : cr_Ok y cc nL ret rm K nS nE Γ) {v : Value} (hv : v.category = 1) (d : decode cc pc = .ok (.dup, 1)) (k : cr_V Γ (pc + 1) ls (v :: v :: st) I R n) : cr_V Γ pc ls (v :: st) I R n := by
  obtain ⟨⟨p, l, e, Rm, s, m, args, below, meth, c⟩, Q, D, g, ad, base, n0⟩ := Γ
  obtain ⟨hx, hb, hml, hown, hts, hK, hST, hlk, hrt, hA, hs0, hQ, hrm, hnm, hn0⟩ := h
  intro H locs la hP hz hS hl
  exact lv_dup hx hb d (by rw [cr_tr_cat]; exact hv) (k H locs la hP hz hS hl)
theorem cr_pop (h : cr_Ok y cc nL ret rm K nS nE Γ) {v : Value} (hv : v.category = 1) (d : decode cc pc = .ok (.pop, 1)) (k : cr_V Γ (pc + 1) ls st I R n) : cr_V Γ pc ls (v :: st) I R n := by
  obtain ⟨⟨p, l, e, Rm, s, m, args, below, meth, c⟩, Q, D, g, ad, base, n0⟩ := Γ
  obtain ⟨hx, hb, hml, hown, hts, hK, hST, hlk, hrt, hA, hs0, hQ, hrm, hnm, hn0⟩ := h
  intro H locs la hP hz hS hl
  exact lv_pop hx hb d (by rw [cr_tr_cat]; exact hv) (k H locs la hP hz hS hl)
theorem cr_dup2 (h : cr_Ok y cc nL ret rm K nS nE Γ) {v u : Value} (hv : v.category = 1) (hu : u.category = 1) (d : decode cc pc = .ok (.dup2, 1)) (k : cr_V Γ (pc + 1) ls (v :: u :: v :: u :: st) I R n) : cr_V Γ pc ls (v :: u :: st) I R n := by
  obtain ⟨⟨p, l, e, Rm, s, m, args, below, meth, c⟩, Q, D, g, ad, base, n0⟩ := Γ
  obtain ⟨hx, hb, hml, hown, hts, hK, hST, hlk, hrt, hA, hs0, hQ, hrm, hnm, hn0⟩ := h
  intro H locs la hP hz hS hl
  exact lv_dup2_11 hx hb d (by rw [cr_tr_cat]; exact hv) (by rw [cr_tr_cat]; exact hu) (k H locs la hP hz hS hl)
theorem cr_if_eq (h : cr_Ok y cc nL ret rm K nS nE Γ) {x0 : Int32} {off : Int} {tgt : Nat} (ht : (pc : Int) + off = (tgt : Int)) (d : decode cc pc = .ok (.ifCond .eq off, 3)) (kt : x0 = 0 → cr_V Γ tgt ls st I R n) (kf : ¬ x0 = 0 → cr_V Γ (pc + 3) ls st I R n) : cr_V Γ pc ls (.int x0 :: st) I R n := by
  obtain ⟨⟨p, l, e, Rm, s, m, args, below, meth, c⟩, Q, D, g, ad, base, n0⟩ := Γ
  obtain ⟨hx, hb, hml, hown, hts, hK, hST, hlk, hrt, hA, hs0, hQ, hrm, hnm, hn0⟩ := h
  intro H locs la hP hz hS hl
  exact lv_if_eq hx hb d ht (fun q => kt q H locs la hP hz hS hl) (fun q => kf q H locs la hP hz hS hl)
theorem cr_icmp_eq (h : cr_Ok y cc nL ret rm K nS nE Γ) {x0 y0 : Int32} {off : Int} {tgt : Nat} (ht : (pc : Int) + off = (tgt : Int)) (d : decode cc pc = .ok (.if_icmp .eq off, 3)) (kt : x0 = y0 → cr_V Γ tgt ls st I R n) (kf : ¬ x0 = y0 → cr_V Γ (pc + 3) ls st I R n) : cr_V Γ pc ls (.int y0 :: .int x0 :: st) I R n := by
  obtain ⟨⟨p, l, e, Rm, s, m, args, below, meth, c⟩, Q, D, g, ad, base, n0⟩ := Γ
  obtain ⟨hx, hb, hml, hown, hts, hK, hST, hlk, hrt, hA, hs0, hQ, hrm, hnm, hn0⟩ := h
  intro H locs la hP hz hS hl
  exact lv_icmp_eq hx hb d ht (fun q => kt q H locs la hP hz hS hl) (fun q => kf q H locs la hP hz hS hl)
theorem cr_if_ne (h : cr_Ok y cc nL ret rm K nS nE Γ) {x0 : Int32} {off : Int} {tgt : Nat} (ht : (pc : Int) + off = (tgt : Int)) (d : decode cc pc = .ok (.ifCond .ne off, 3)) (kt : ¬ x0 = 0 → cr_V Γ tgt ls st I R n) (kf : x0 = 0 → cr_V Γ (pc + 3) ls st I R n) : cr_V Γ pc ls (.int x0 :: st) I R n := by
  obtain ⟨⟨p, l, e, Rm, s, m, args, below, meth, c⟩, Q, D, g, ad, base, n0⟩ := Γ
  obtain ⟨hx, hb, hml, hown, hts, hK, hST, hlk, hrt, hA, hs0, hQ, hrm, hnm, hn0⟩ := h
  intro H locs la hP hz hS hl
  exact lv_if_ne hx hb d ht (fun q => kt q H locs la hP hz hS hl) (fun q => kf q H locs la hP hz hS hl)
theorem cr_icmp_ne (h : cr_Ok y cc nL ret rm K nS nE Γ) {x0 y0 : Int32} {off : Int} {tgt : Nat} (ht : (pc : Int) + off = (tgt : Int)) (d : decode cc pc = .ok (.if_icmp .ne off, 3)) (kt : ¬ x0 = y0 → cr_V Γ tgt ls st I R n) (kf : x0 = y0 → cr_V Γ (pc + 3) ls st I R n) : cr_V Γ pc ls (.int y0 :: .int x0 :: st) I R n := by
  obtain ⟨⟨p, l, e, Rm, s, m, args, below, meth, c⟩, Q, D, g, ad, base, n0⟩ := Γ
  obtain ⟨hx, hb, hml, hown, hts, hK, hST, hlk, hrt, hA, hs0, hQ, hrm, hnm, hn0⟩ := h
  intro H locs la hP hz hS hl
  exact lv_icmp_ne hx hb d ht (fun q => kt q H locs la hP hz hS hl) (fun q => kf q H locs la hP hz hS hl)
theorem cr_if_lt (h : cr_Ok y cc nL ret rm K nS nE Γ) {x0 : Int32} {off : Int} {tgt : Nat} (ht : (pc : Int) + off = (tgt : Int)) (d : decode cc pc = .ok (.ifCond .lt off, 3)) (kt : x0 < 0 → cr_V Γ tgt ls st I R n) (kf : ¬ x0 < 0 → cr_V Γ (pc + 3) ls st I R n) : cr_V Γ pc ls (.int x0 :: st) I R n := by
  obtain ⟨⟨p, l, e, Rm, s, m, args, below, meth, c⟩, Q, D, g, ad, base, n0⟩ := Γ
  obtain ⟨hx, hb, hml, hown, hts, hK, hST, hlk, hrt, hA, hs0, hQ, hrm, hnm, hn0⟩ := h
  intro H locs la hP hz hS hl
  exact lv_if_lt hx hb d ht (fun q => kt q H locs la hP hz hS hl) (fun q => kf q H locs la hP hz hS hl)
theorem cr_icmp_lt (h : cr_Ok y cc nL ret rm K nS nE Γ) {x0 y0 : Int32} {off : Int} {tgt : Nat} (ht : (pc : Int) + off = (tgt : Int)) (d : decode cc pc = .ok (.if_icmp .lt off, 3)) (kt : x0 < y0 → cr_V Γ tgt ls st I R n) (kf : ¬ x0 < y0 → cr_V Γ (pc + 3) ls st I R n) : cr_V Γ pc ls (.int y0 :: .int x0 :: st) I R n := by
  obtain ⟨⟨p, l, e, Rm, s, m, args, below, meth, c⟩, Q, D, g, ad, base, n0⟩ := Γ
  obtain ⟨hx, hb, hml, hown, hts, hK, hST, hlk, hrt, hA, hs0, hQ, hrm, hnm, hn0⟩ := h
  intro H locs la hP hz hS hl
  exact lv_icmp_lt hx hb d ht (fun q => kt q H locs la hP hz hS hl) (fun q => kf q H locs la hP hz hS hl)
theorem cr_if_ge (h : cr_Ok y cc nL ret rm K nS nE Γ) {x0 : Int32} {off : Int} {tgt : Nat} (ht : (pc : Int) + off = (tgt : Int)) (d : decode cc pc = .ok (.ifCond .ge off, 3)) (kt : 0 ≤ x0 → cr_V Γ tgt ls st I R n) (kf : ¬ 0 ≤ x0 → cr_V Γ (pc + 3) ls st I R n) : cr_V Γ pc ls (.int x0 :: st) I R n := by
  obtain ⟨⟨p, l, e, Rm, s, m, args, below, meth, c⟩, Q, D, g, ad, base, n0⟩ := Γ
  obtain ⟨hx, hb, hml, hown, hts, hK, hST, hlk, hrt, hA, hs0, hQ, hrm, hnm, hn0⟩ := h
  intro H locs la hP hz hS hl
  exact lv_if_ge hx hb d ht (fun q => kt q H locs la hP hz hS hl) (fun q => kf q H locs la hP hz hS hl)
theorem cr_icmp_ge (h : cr_Ok y cc nL ret rm K nS nE Γ) {x0 y0 : Int32} {off : Int} {tgt : Nat} (ht : (pc : Int) + off = (tgt : Int)) (d : decode cc pc = .ok (.if_icmp .ge off, 3)) (kt : y0 ≤ x0 → cr_V Γ tgt ls st I R n) (kf : ¬ y0 ≤ x0 → cr_V Γ (pc + 3) ls st I R n) : cr_V Γ pc ls (.int y0 :: .int x0 :: st) I R n := by
  obtain ⟨⟨p, l, e, Rm, s, m, args, below, meth, c⟩, Q, D, g, ad, base, n0⟩ := Γ
  obtain ⟨hx, hb, hml, hown, hts, hK, hST, hlk, hrt, hA, hs0, hQ, hrm, hnm, hn0⟩ := h
  intro H locs la hP hz hS hl
  exact lv_icmp_ge hx hb d ht (fun q => kt q H locs la hP hz hS hl) (fun q => kf q H locs la hP hz hS hl)
theorem cr_if_gt (h : cr_Ok y cc nL ret rm K nS nE Γ) {x0 : Int32} {off : Int} {tgt : Nat} (ht : (pc : Int) + off = (tgt : Int)) (d : decode cc pc = .ok (.ifCond .gt off, 3)) (kt : 0 < x0 → cr_V Γ tgt ls st I R n) (kf : ¬ 0 < x0 → cr_V Γ (pc + 3) ls st I R n) : cr_V Γ pc ls (.int x0 :: st) I R n := by
  obtain ⟨⟨p, l, e, Rm, s, m, args, below, meth, c⟩, Q, D, g, ad, base, n0⟩ := Γ
  obtain ⟨hx, hb, hml, hown, hts, hK, hST, hlk, hrt, hA, hs0, hQ, hrm, hnm, hn0⟩ := h
  intro H locs la hP hz hS hl
  exact lv_if_gt hx hb d ht (fun q => kt q H locs la hP hz hS hl) (fun q => kf q H locs la hP hz hS hl)
theorem cr_icmp_gt (h : cr_Ok y cc nL ret rm K nS nE Γ) {x0 y0 : Int32} {off : Int} {tgt : Nat} (ht : (pc : Int) + off = (tgt : Int)) (d : decode cc pc = .ok (.if_icmp .gt off, 3)) (kt : y0 < x0 → cr_V Γ tgt ls st I R n) (kf : ¬ y0 < x0 → cr_V Γ (pc + 3) ls st I R n) : cr_V Γ pc ls (.int y0 :: .int x0 :: st) I R n := by
  obtain ⟨⟨p, l, e, Rm, s, m, args, below, meth, c⟩, Q, D, g, ad, base, n0⟩ := Γ
  obtain ⟨hx, hb, hml, hown, hts, hK, hST, hlk, hrt, hA, hs0, hQ, hrm, hnm, hn0⟩ := h
  intro H locs la hP hz hS hl
  exact lv_icmp_gt hx hb d ht (fun q => kt q H locs la hP hz hS hl) (fun q => kf q H locs la hP hz hS hl)
theorem cr_if_le (h : cr_Ok y cc nL ret rm K nS nE Γ) {x0 : Int32} {off : Int} {tgt : Nat} (ht : (pc : Int) + off = (tgt : Int)) (d : decode cc pc = .ok (.ifCond .le off, 3)) (kt : x0 ≤ 0 → cr_V Γ tgt ls st I R n) (kf : ¬ x0 ≤ 0 → cr_V Γ (pc + 3) ls st I R n) : cr_V Γ pc ls (.int x0 :: st) I R n := by
  obtain ⟨⟨p, l, e, Rm, s, m, args, below, meth, c⟩, Q, D, g, ad, base, n0⟩ := Γ
  obtain ⟨hx, hb, hml, hown, hts, hK, hST, hlk, hrt, hA, hs0, hQ, hrm, hnm, hn0⟩ := h
  intro H locs la hP hz hS hl
  exact lv_if_le hx hb d ht (fun q => kt q H locs la hP hz hS hl) (fun q => kf q H locs la hP hz hS hl)
theorem cr_icmp_le (h : cr_Ok y cc nL ret rm K nS nE Γ) {x0 y0 : Int32} {off : Int} {tgt : Nat} (ht : (pc : Int) + off = (tgt : Int)) (d : decode cc pc = .ok (.if_icmp .le off, 3)) (kt : x0 ≤ y0 → cr_V Γ tgt ls st I R n) (kf : ¬ x0 ≤ y0 → cr_V Γ (pc + 3) ls st I R n) : cr_V Γ pc ls (.int y0 :: .int x0 :: st) I R n := by
  obtain ⟨⟨p, l, e, Rm, s, m, args, below, meth, c⟩, Q, D, g, ad, base, n0⟩ := Γ
  obtain ⟨hx, hb, hml, hown, hts, hK, hST, hlk, hrt, hA, hs0, hQ, hrm, hnm, hn0⟩ := h
  intro H locs la hP hz hS hl
  exact lv_icmp_le hx hb d ht (fun q => kt q H locs la hP hz hS hl) (fun q => kf q H locs la hP hz hS hl)
theorem cr_goto (h : cr_Ok y cc nL ret rm K nS nE Γ) {off : Int} {tgt : Nat} (ht : (pc : Int) + off = (tgt : Int)) (d : decode cc pc = .ok (.goto off, 3)) (k : cr_V Γ tgt ls st I R n) : cr_V Γ pc ls st I R n := by
  obtain ⟨⟨p, l, e, Rm, s, m, args, below, meth, c⟩, Q, D, g, ad, base, n0⟩ := Γ
  obtain ⟨hx, hb, hml, hown, hts, hK, hST, hlk, hrt, hA, hs0, hQ, hrm, hnm, hn0⟩ := h
  intro H locs la hP hz hS hl
  exact lv_goto hx hb d ht (k H locs la hP hz hS hl)
theorem cr_swOut (h : cr_Ok y cc nL ret rm K nS nE Γ) {dflt lo hi : Int} {offs : Array Int} {len : Nat} {x0 : Int32} {tgt : Nat} (hr : x0.toInt < lo ∨ hi < x0.toInt) (ht : (pc : Int) + dflt = (tgt : Int)) (d : decode cc pc = .ok (.tableswitch dflt lo hi offs, len)) (k : cr_V Γ tgt ls st I R n) : cr_V Γ pc ls (.int x0 :: st) I R n := by
  obtain ⟨⟨p, l, e, Rm, s, m, args, below, meth, c⟩, Q, D, g, ad, base, n0⟩ := Γ
  obtain ⟨hx, hb, hml, hown, hts, hK, hST, hlk, hrt, hA, hs0, hQ, hrm, hnm, hn0⟩ := h
  intro H locs la hP hz hS hl
  exact lv_tableOut hx hb d hr ht (k H locs la hP hz hS hl)
theorem cr_swIn (h : cr_Ok y cc nL ret rm K nS nE Γ) {dflt lo hi : Int} {offs : Array Int} {len : Nat} {x0 : Int32} {off : Int} {tgt : Nat} (h1 : ¬ x0.toInt < lo) (h2 : ¬ hi < x0.toInt) (ho : offs[(x0.toInt - lo).toNat]? = some off) (ht : (pc : Int) + off = (tgt : Int)) (d : decode cc pc = .ok (.tableswitch dflt lo hi offs, len)) (k : cr_V Γ tgt ls st I R n) : cr_V Γ pc ls (.int x0 :: st) I R n := by
  obtain ⟨⟨p, l, e, Rm, s, m, args, below, meth, c⟩, Q, D, g, ad, base, n0⟩ := Γ
  obtain ⟨hx, hb, hml, hown, hts, hK, hST, hlk, hrt, hA, hs0, hQ, hrm, hnm, hn0⟩ := h
  intro H locs la hP hz hS hl
  exact lv_tableIn hx hb d h1 h2 ho ht (k H locs la hP hz hS hl)
theorem cr_iret (h : cr_Ok y cc nL ret rm K nS nE Γ) {x0 : Int32} {ty : FieldType} (hr : ret = some ty) (hn : narrow ty (.int x0) = .int x0) (he : n = nE) (d : decode cc pc = .ok (.ireturn, 1)) (k : K (some (.int x0)) I R) : cr_V Γ pc ls [.int x0] I R n := by
  obtain ⟨⟨p, l, e, Rm, s, m, args, below, meth, c⟩, Q, D, g, ad, base, n0⟩ := Γ
  obtain ⟨hx, hb, hml, hown, hts, hK, hST, hlk, hrt, hA, hs0, hQ, hrm, hnm, hn0⟩ := h
  intro H locs la hP hz hS hl
  subst he
  subst hQ
  exact W.zret hx hb (hrt.trans hr) hn (fun t ht hW => ⟨⟨some (.int x0), I, R, rfl, k, by rw [ht]; exact hP, by rw [ht]; exact hz⟩, hS.F ht⟩) hS.2.2 d hlk
theorem cr_aret (h : cr_Ok y cc nL ret rm K nS nE Γ) {x0 : Nat} {rt : FieldType} (hr : ret = some rt) (hrt0 : (∃ n, rt = .object n) ∨ ∃ t, rt = .array t) (he : n = nE) (d : decode cc pc = .ok (.areturn, 1)) (k : K (some (.ref x0)) I R) : cr_V Γ pc ls [.ref x0] I R n := by
  obtain ⟨⟨p, l, e, Rm, s, m, args, below, meth, c⟩, Q, D, g, ad, base, n0⟩ := Γ
  obtain ⟨hx, hb, hml, hown, hts, hK, hST, hlk, hrt, hA, hs0, hQ, hrm, hnm, hn0⟩ := h
  intro H locs la hP hz hS hl
  subst he
  subst hQ
  exact W.aret hx hb (hrt.trans hr) hrt0 (Or.inr ⟨ad x0, rfl⟩) (fun t ht hW => ⟨⟨some (.ref x0), I, R, rfl, k, by rw [ht]; exact hP, by rw [ht]; exact hz⟩, hS.F ht⟩) hS.2.2 d hlk
theorem cr_vret (h : cr_Ok y cc nL ret rm K nS nE Γ) (hr : ret = none) (he : n = nE) (d : decode cc pc = .ok (.return_, 1)) (k : K none I R) : cr_V Γ pc ls [] I R n := by
  obtain ⟨⟨p, l, e, Rm, s, m, args, below, meth, c⟩, Q, D, g, ad, base, n0⟩ := Γ
  obtain ⟨hx, hb, hml, hown, hts, hK, hST, hlk, hrt, hA, hs0, hQ, hrm, hnm, hn0⟩ := h
  intro H locs la hP hz hS hl
  subst he
  subst hQ
  exact W.vret hx hb (hrt.trans hr) (fun t ht hW => ⟨⟨none, I, R, rfl, k, by rw [ht]; exact hP, by rw [ht]; exact hz⟩, hS.F ht⟩) hS.2.2 d hlk
end CRR
