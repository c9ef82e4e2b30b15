theorem cr_sl_mono {a b : Nat} (h : a ≤ b) : cr_sl a ≤ cr_sl b := by
  induction b with
  | zero => rw [Nat.le_zero.mp h]; exact Nat.le_refl _
  | succ b ih =>
    rcases Nat.lt_or_ge a (b + 1) with q | q
    · refine Nat.le_trans (ih (by omega)) ?_
      unfold cr_sl
      rw [List.take_succ]
      simp
    · rw [show a = b + 1 by omega]; exact Nat.le_refl _
theorem cr_ce_obj {ad : Nat → Nat} {g : cr_g} {I : cr_I} {R : cr_R} {b c N : Nat} (h : cr_kd b = (c + 3, N)) : cr_ce ad g I R b = .inr (c, cr_fs ad I R c N b) := by simp only [cr_ce, h]
theorem cr_ce_int {ad : Nat → Nat} {g : cr_g} {I : cr_I} {R : cr_R} {b N : Nat} (h : cr_kd b = (0, N)) : cr_ce ad g I R b = .inl (g.1, N, .inl (I b)) := by simp only [cr_ce, h]
theorem cr_ce_row {ad : Nat → Nat} {g : cr_g} {I : cr_I} {R : cr_R} {b N : Nat} (h : cr_kd b = (1, N)) : cr_ce ad g I R b = .inl (g.2.1, N, .inr (.inr (.inr (.inr (fun j => (R b j).map ad))))) := by simp only [cr_ce, h]
theorem cr_ce_mak {ad : Nat → Nat} {g : cr_g} {I : cr_I} {R : cr_R} {b N : Nat} (h : cr_kd b = (2, N)) : cr_ce ad g I R b = .inl (g.2.2, N, .inr (.inr (.inr (.inr (fun j => (R b j).map ad))))) := by simp only [cr_ce, h]
theorem cr_vin {i : Int32} {N : Nat} (h0 : 0 ≤ i.toInt) (h1 : i.toInt < N) : vp_in i N := vp_in_iff.mpr ⟨h0, h1⟩
/-- a class of the world by its number -/
def cr_cls (c : Nat) (C : String) (T : u_T) (N : Nat) (ty : Nat → FieldType) : Prop := cr_cl[c]? = some (C, T, N) ∧ (∀ w ∈ u_ws C T N, w ∈ cr_GW) ∧ (∀ k, k < N → parseFieldDescriptor (T k).2.2.1 = some (ty k)) ∧ ∀ a, a < N → ∀ b, b < N → a ≠ b → (T a).2.1 ≠ (T b).2.1
theorem cr_clsX0 : cr_cls 0 RX0 TX0 9 tyX0 := ⟨rfl, cr_inX0, tyX0_ok, nmX0⟩
theorem cr_clsX1 : cr_cls 1 RX1 TX1 8 tyX1 := ⟨rfl, cr_inX1, tyX1_ok, nmX1⟩
theorem cr_clsX2 : cr_cls 2 RX2 TX2 5 tyX2 := ⟨rfl, cr_inX2, tyX2_ok, nmX2⟩
theorem cr_clsX3 : cr_cls 3 RX3 TX3 17 tyX3 := ⟨rfl, cr_inX3, tyX3_ok, nmX3⟩
theorem cr_clsX4 : cr_cls 4 RX4 TX4 10 tyX4 := ⟨rfl, cr_inX4, tyX4_ok, nmX4⟩
theorem cr_clsX5 : cr_cls 5 RX5 TX5 1 tyX5 := ⟨rfl, cr_inX5, tyX5_ok, nmX5⟩
theorem cr_clsX6 : cr_cls 6 RX6 TX6 6 tyX6 := ⟨rfl, cr_inX6, tyX6_ok, nmX6⟩
theorem cr_clsX7 : cr_cls 7 RX7 TX7 5 tyX7 := ⟨rfl, cr_inX7, tyX7_ok, nmX7⟩
theorem cr_clsX8 : cr_cls 8 RX8 TX8 6 tyX8 := ⟨rfl, cr_inX8, tyX8_ok, nmX8⟩
theorem cr_clsX9 : cr_cls 9 RX9 TX9 65 tyX9 := ⟨rfl, cr_inX9, tyX9_ok, nmX9⟩
section CRH
variable {y : MethodName} {cc : ByteArray} {nL : Nat} {ret : Option FieldType} {rm : Room} {K : cr_K} {nS nE : Nat} {Γ : cr_G} {pc : Nat} {ls st : List Value} {I : cr_I} {R : cr_R} {n : Nat}
theorem cr_getI (h : cr_Ok y cc nL ret rm K nS nE Γ) {i b k c0 N : Nat} {C : String} {T : u_T} {ty : Nat → FieldType} (hc : cr_cls c0 C T N ty) (hk : k < N) (hf : cr_fi c0 k = true) (hT : (T k).1 = C) (hw : Cond.fieldLink y.cls i C (T k).2.1 (T k).2.2.1 ∈ cr_GW) (hbn : b < n) (hkd : cr_kd b = (c0 + 3, N)) (d : decode cc pc = .ok (.getfield i, 3)) (k1 : cr_V Γ (pc + 3) ls (.int (I b k) :: st) I R n) : cr_V Γ pc ls (.ref b :: st) I R n := by
  obtain ⟨⟨p, l, e, Rm, s, m, args, below, meth, c⟩, Q, D, g, ad, base, n0⟩ := Γ
  obtain ⟨hx, hb, hml, hown, hts, hK, hST, hlk, hrt, hA, hs0, hQ, hrm, hnm, hn0⟩ := h
  intro H locs la hP hz hS hl
  exact va_get (D := D) (C := C) (T := T) (N := N) hx hb hts hc.2.1 hown hK hP b (by rw [cr_wd_at hbn, cr_ce_obj hkd]) hc.1 k hk (hts _ hw) (fun x hx => by rw [hT] at hx; exact hx) (v := .int (I b k)) (by rw [cr_fs_at hk, if_pos hf]) d (k1 H locs la hP hz hS hl)
theorem cr_getR (h : cr_Ok y cc nL ret rm K nS nE Γ) {i b k c0 N x : Nat} {C : String} {T : u_T} {ty : Nat → FieldType} (hc : cr_cls c0 C T N ty) (hk : k < N) (hf : cr_fi c0 k = false) (hT : (T k).1 = C) (hw : Cond.fieldLink y.cls i C (T k).2.1 (T k).2.2.1 ∈ cr_GW) (hbn : b < n) (hkd : cr_kd b = (c0 + 3, N)) (hR : R b k = some x) (d : decode cc pc = .ok (.getfield i, 3)) (k1 : cr_V Γ (pc + 3) ls (.ref x :: st) I R n) : cr_V Γ pc ls (.ref b :: st) I R n := by
  obtain ⟨⟨p, l, e, Rm, s, m, args, below, meth, c⟩, Q, D, g, ad, base, n0⟩ := Γ
  obtain ⟨hx, hb, hml, hown, hts, hK, hST, hlk, hrt, hA, hs0, hQ, hrm, hnm, hn0⟩ := h
  intro H locs la hP hz hS hl
  exact va_get (D := D) (C := C) (T := T) (N := N) hx hb hts hc.2.1 hown hK hP b (by rw [cr_wd_at hbn, cr_ce_obj hkd]) hc.1 k hk (hts _ hw) (fun x hx => by rw [hT] at hx; exact hx) (v := .ref (ad x)) (by rw [cr_fs_at hk, if_neg (by rw [hf]; decide), hR]; rfl) d (k1 H locs la hP hz hS hl)
theorem cr_put0 {D : va_G} {g : cr_g} {ad : Nat → Nat} {p : Program} {l : Launch} {e : Env} {Rm : Room} {s : State} {m : MethodId} {args : Array Value} {below : List Frame} {meth : Method} {c : Code} {Q : State → Prop} {base : Nat} {H : Heap} {locs : List Loc} {la : Array Slot} {cells slots : Nat} {rest : List Value} {own : String}
    (hx : p.tables.exec = Jvm.exec) (hb : c.code = cc) (hown : s.vm.findClass own = some m.cls) (hts : ∀ w ∈ cr_GW, w.before args s = true) (hK : va_K D cr_cl (cr_ty g) s) (hA : cr_ad ad base) (hP : va_P D cr_cl (cr_wd ad g I R n) H) (hS : va_S (fun q => base ≤ q) s.heap H locs)
    {i b k c0 N : Nat} {C : String} {T : u_T} {ty : Nat → FieldType} {v : Value} {I' : cr_I} {R' : cr_R} (hc : cr_cls c0 C T N ty) (hk : k < N) (hT : (T k).1 = C) (hfin : (T k).2.2.2 = false ∨ ((T k).2.2.2 = true ∧ meth.name = "<init>" ∧ C = own)) (hw : Cond.fieldLink own i C (T k).2.1 (T k).2.2.1 ∈ cr_GW) (hbn : b < n) (hnn : n ≤ 1000) (hkd : cr_kd b = (c0 + 3, N))
    (hn : narrow (ty k) v = v) (hfit : fits (ty k) v = true) (hset : (cr_fs ad I R c0 N b).set k v = cr_fs ad I' R' c0 N b) (hoth : ∀ x, x < n → x ≠ b → cr_ce ad g I' R' x = cr_ce ad g I R x) (d : decode cc pc = .ok (.putfield i, 3))
    (kk : ∀ (H1 : Heap) (locs1 : List Loc), va_P D cr_cl (cr_wd ad g I' R' n) H1 → H1.size = H.size → va_S (fun q => base ≤ q) s.heap H1 locs1 → W p l e Rm s m args below meth c H1 locs1 cells slots Q (F0 m (pc + 3) la rest)) : W p l e Rm s m args below meth c H locs cells slots Q (F0 m pc la (v :: .ref (ad b) :: rest)) := by
  obtain ⟨hcl, hin, hty, hnmz⟩ := hc
  have hap := va_apart (own := own) hts hin ty hty hnmz hK hcl
  have hD := cr_wd_D (g := g) (I := I) (R := R) hA hnn
  have he : (cr_wd ad g I R n)[b]? = some (ad b, .inr (c0, cr_fs ad I R c0 N b)) := by rw [cr_wd_at hbn, cr_ce_obj hkd]
  obtain ⟨r, h1, cell, q1, q2, q3, q4⟩ := hP b _ he
  have hr : r = (C, T, N) := Option.some.inj (h1.symm.trans hcl)
  subst hr
  obtain ⟨hSl, hfc, kC, hkC, hkind⟩ := hK.1 c0 _ hcl
  obtain ⟨cf, kf, fi, f, hi, hsl⟩ := hSl k hk
  have hlay := hts _ (hin _ (u_in_lay hk))
  have hst := (u_facts hfc hkC (u_lays hts hin hk) hi).1
  have hlinkf : s.fieldFound? C (T k).2.1 (T k).2.2.1 = some (cf, kf, fi, f) := by rw [← hT]; exact hi
  have fin : ∀ (H' : Heap) (locs' : List Loc), H'[ad b]? = some (cell.setSlot f.slot v) → H'.size = H.size → (∀ q : Nat, q ≠ ad b → H'[q]? = H[q]?) → locs' = locs ++ [⟨ad b, f.slot⟩] → W p l e Rm s m args below meth c H' locs' cells slots Q (F0 m (pc + 3) la rest) := by
    intro H' locs' e1 e2 e3 e4
    rw [hsl] at e1
    have hP' := hP.set hD he (e := .inr (c0, (cr_fs ad I R c0 N b).set k v)) ⟨_, hcl, t_OB.to (V := updV (vp_V (cr_fs ad I R c0 N b)) k v) ⟨_, e1, q2, q3, t_set q4 hap hk v⟩ (fun j _ => vp_updV_set (by rw [cr_fs_len]; exact hk) v j)⟩ e3
    rw [hset, ← cr_ce_obj (g := g) hkd, cr_wd_set hbn hoth] at hP'
    rw [e4]
    exact kk H' _ hP' e2 (hS.put e2 e3 (hD.2 b _ he))
  unfold u_lay at hlay
  rcases hfin with hf | ⟨hf, hin2, hco⟩
  · rw [if_neg (by rw [hf]; decide)] at hlay
    have h6 := u_store hfc hkC hkind hlay hi (hty k hk) hn hfit
    exact W.putK hx hb (f := f) ⟨hown, hts _ hw, ⟨_, _, _, hlinkf⟩, hst⟩ (by rw [q2]; exact h6) q1 q3 (by rw [hsl]; exact k2_hasslot (q4 k hk)) rfl rfl d fun H' e1 e2 e3 => fin H' _ e1 e2 e3 rfl
  · rw [if_pos hf] at hlay
    have hcf : m.cls = cf := by
      obtain ⟨_, _, c', _, _, _, -, -, hf', -, -, -, hown2, -⟩ := Cond.laysFinal_spec hlay
      have e1 : c' = cf := by have := hi.symm.trans hf'; simp at this; exact this.1.symm
      rw [hT, hco] at hown2
      rw [← e1]; exact Option.some.inj (hown.symm.trans hown2)
    have h6 := u_fits hfc hkC hkind (Or.inr hlay) hi (hty k hk) hn hfit
    exact W.putFinK hx hb hown (hts _ hw) hlinkf hst hcf hin2 (by rw [q2]; exact h6) q1 q3 (by rw [hsl]; exact k2_hasslot (q4 k hk)) rfl rfl d fun H' e1 e2 e3 => fin H' _ e1 e2 e3 rfl
theorem cr_putI (h : cr_Ok y cc nL ret rm K nS nE Γ) {i b k c0 N : Nat} {C : String} {T : u_T} {ty : Nat → FieldType} {x0 : Int32} (hc : cr_cls c0 C T N ty) (hk : k < N) (hf : cr_fi c0 k = true) (hty : ty k = .int) (hT : (T k).1 = C) (hfin : (T k).2.2.2 = false) (hw : Cond.fieldLink y.cls i C (T k).2.1 (T k).2.2.1 ∈ cr_GW) (hbn : b < n) (hnn : n ≤ 1000) (hkd : cr_kd b = (c0 + 3, N)) (d : decode cc pc = .ok (.putfield i, 3)) (k1 : cr_V Γ (pc + 3) ls st (cr_up I b k x0) R n) : cr_V Γ pc ls (.int x0 :: .ref b :: st) I R n := by
  obtain ⟨⟨p, l, e, Rm, s, m, args, below, meth, c⟩, Q, D, g, ad, base, n0⟩ := Γ
  obtain ⟨hx, hb, hml, hown, hts, hK, hST, hlk, hrt, hA, hs0, hQ, hrm, hnm, hn0⟩ := h
  intro H locs la hP hz hS hl
  exact cr_put0 (I' := cr_up I b k x0) (R' := R) (v := .int x0) hx hb hown hts hK hA hP hS hc hk hT (Or.inl hfin) hw hbn hnn hkd (by rw [hty]; rfl) (by rw [hty]; rfl) (cr_fs_upI hf) (fun x _ hx => cr_ce_upI hx) d (fun H1 locs1 hP1 z1 hS1 => k1 H1 locs1 la hP1 (fun q => z1.trans (hz q)) hS1 hl)
theorem cr_putR (h : cr_Ok y cc nL ret rm K nS nE Γ) {i b k c0 N x : Nat} {C : String} {T : u_T} {ty : Nat → FieldType} (hc : cr_cls c0 C T N ty) (hk : k < N) (hf : cr_fi c0 k = false) (hty : (∃ q, ty k = .object q) ∨ ∃ q, ty k = .array q) (hT : (T k).1 = C) (hfin : (T k).2.2.2 = false) (hw : Cond.fieldLink y.cls i C (T k).2.1 (T k).2.2.1 ∈ cr_GW) (hbn : b < n) (hnn : n ≤ 1000) (hkd : cr_kd b = (c0 + 3, N)) (d : decode cc pc = .ok (.putfield i, 3)) (k1 : cr_V Γ (pc + 3) ls st I (cr_up R b k (some x)) n) : cr_V Γ pc ls (.ref x :: .ref b :: st) I R n := by
  obtain ⟨⟨p, l, e, Rm, s, m, args, below, meth, c⟩, Q, D, g, ad, base, n0⟩ := Γ
  obtain ⟨hx, hb, hml, hown, hts, hK, hST, hlk, hrt, hA, hs0, hQ, hrm, hnm, hn0⟩ := h
  intro H locs la hP hz hS hl
  exact cr_put0 (I' := I) (R' := cr_up R b k (some x)) (v := .ref (ad x)) hx hb hown hts hK hA hP hS hc hk hT (Or.inl hfin) hw hbn hnn hkd (by rcases hty with ⟨q, e⟩ | ⟨q, e⟩ <;> rw [e] <;> rfl) (by rcases hty with ⟨q, e⟩ | ⟨q, e⟩ <;> rw [e] <;> rfl) (cr_fs_upR hf) (fun x _ hx => cr_ce_upR hx) d (fun H1 locs1 hP1 z1 hS1 => k1 H1 locs1 la hP1 (fun q => z1.trans (hz q)) hS1 hl)
theorem cr_putIF (h : cr_Ok y cc nL ret rm K nS nE Γ) {i b k c0 N : Nat} {C : String} {T : u_T} {ty : Nat → FieldType} {x0 : Int32} (hc : cr_cls c0 C T N ty) (hk : k < N) (hf : cr_fi c0 k = true) (hty : ty k = .int) (hT : (T k).1 = C) (hfin : (T k).2.2.2 = true) (hin0 : y.name = "<init>") (hco : C = y.cls) (hw : Cond.fieldLink y.cls i C (T k).2.1 (T k).2.2.1 ∈ cr_GW) (hbn : b < n) (hnn : n ≤ 1000) (hkd : cr_kd b = (c0 + 3, N)) (d : decode cc pc = .ok (.putfield i, 3)) (k1 : cr_V Γ (pc + 3) ls st (cr_up I b k x0) R n) : cr_V Γ pc ls (.int x0 :: .ref b :: st) I R n := by
  obtain ⟨⟨p, l, e, Rm, s, m, args, below, meth, c⟩, Q, D, g, ad, base, n0⟩ := Γ
  obtain ⟨hx, hb, hml, hown, hts, hK, hST, hlk, hrt, hA, hs0, hQ, hrm, hnm, hn0⟩ := h
  intro H locs la hP hz hS hl
  exact cr_put0 (I' := cr_up I b k x0) (R' := R) (v := .int x0) hx hb hown hts hK hA hP hS hc hk hT (Or.inr ⟨hfin, hnm.trans hin0, hco⟩) hw hbn hnn hkd (by rw [hty]; rfl) (by rw [hty]; rfl) (cr_fs_upI hf) (fun x _ hx => cr_ce_upI hx) d (fun H1 locs1 hP1 z1 hS1 => k1 H1 locs1 la hP1 (fun q => z1.trans (hz q)) hS1 hl)
theorem cr_putRF (h : cr_Ok y cc nL ret rm K nS nE Γ) {i b k c0 N x : Nat} {C : String} {T : u_T} {ty : Nat → FieldType} (hc : cr_cls c0 C T N ty) (hk : k < N) (hf : cr_fi c0 k = false) (hty : (∃ q, ty k = .object q) ∨ ∃ q, ty k = .array q) (hT : (T k).1 = C) (hfin : (T k).2.2.2 = true) (hin0 : y.name = "<init>") (hco : C = y.cls) (hw : Cond.fieldLink y.cls i C (T k).2.1 (T k).2.2.1 ∈ cr_GW) (hbn : b < n) (hnn : n ≤ 1000) (hkd : cr_kd b = (c0 + 3, N)) (d : decode cc pc = .ok (.putfield i, 3)) (k1 : cr_V Γ (pc + 3) ls st I (cr_up R b k (some x)) n) : cr_V Γ pc ls (.ref x :: .ref b :: st) I R n := by
  obtain ⟨⟨p, l, e, Rm, s, m, args, below, meth, c⟩, Q, D, g, ad, base, n0⟩ := Γ
  obtain ⟨hx, hb, hml, hown, hts, hK, hST, hlk, hrt, hA, hs0, hQ, hrm, hnm, hn0⟩ := h
  intro H locs la hP hz hS hl
  exact cr_put0 (I' := I) (R' := cr_up R b k (some x)) (v := .ref (ad x)) hx hb hown hts hK hA hP hS hc hk hT (Or.inr ⟨hfin, hnm.trans hin0, hco⟩) hw hbn hnn hkd (by rcases hty with ⟨q, e⟩ | ⟨q, e⟩ <;> rw [e] <;> rfl) (by rcases hty with ⟨q, e⟩ | ⟨q, e⟩ <;> rw [e] <;> rfl) (cr_fs_upR hf) (fun x _ hx => cr_ce_upR hx) d (fun H1 locs1 hP1 z1 hS1 => k1 H1 locs1 la hP1 (fun q => z1.trans (hz q)) hS1 hl)
theorem cr_iald (h : cr_Ok y cc nL ret rm K nS nE Γ) {b N : Nat} {i : Int32} (hbn : b < n) (hkd : cr_kd b = (0, N)) (h0 : 0 ≤ i.toInt ∧ i.toInt < N) (d : decode cc pc = .ok (.iaload, 1)) (k1 : cr_V Γ (pc + 1) ls (.int (I b i.toNatClampNeg) :: st) I R n) : cr_V Γ pc ls (.int i :: .ref b :: st) I R n := by
  obtain ⟨⟨p, l, e, Rm, s, m, args, below, meth, c⟩, Q, D, g, ad, base, n0⟩ := Γ
  obtain ⟨hx, hb, hml, hown, hts, hK, hST, hlk, hrt, hA, hs0, hQ, hrm, hnm, hn0⟩ := h
  intro H locs la hP hz hS hl
  exact va_iald (D := D) hx hb hK hP b 0 (by rw [cr_wd_at hbn, cr_ce_int hkd]) rfl (cr_vin h0.1 h0.2) d (k1 H locs la hP hz hS hl)
theorem cr_iast (h : cr_Ok y cc nL ret rm K nS nE Γ) {b N : Nat} {i x0 : Int32} (hbn : b < n) (hnn : n ≤ 1000) (hkd : cr_kd b = (0, N)) (h0 : 0 ≤ i.toInt ∧ i.toInt < N) (d : decode cc pc = .ok (.iastore, 1)) (k1 : cr_V Γ (pc + 1) ls st (cr_up I b i.toNatClampNeg x0) R n) : cr_V Γ pc ls (.int x0 :: .int i :: .ref b :: st) I R n := by
  obtain ⟨⟨p, l, e, Rm, s, m, args, below, meth, c⟩, Q, D, g, ad, base, n0⟩ := Γ
  obtain ⟨hx, hb, hml, hown, hts, hK, hST, hlk, hrt, hA, hs0, hQ, hrm, hnm, hn0⟩ := h
  intro H locs la hP hz hS hl
  have hD := cr_wd_D (g := g) (I := I) (R := R) hA hnn
  have he : (cr_wd ad g I R n)[b]? = some (ad b, .inl (g.1, N, .inl (I b))) := by rw [cr_wd_at hbn, cr_ce_int hkd]
  refine W.iast hx hb (hP b _ he) ((hK.2 0 _ rfl).1 N (fun j => .int (I b j))) (fun q => by cases q) (by show ¬ (i < 0 ∨ (arrV _ _ _).slots.size ≤ _); rw [arrV_size]; exact cr_vin h0.1 h0.2) rfl rfl d fun H1 e z oq => ?_
  have hP' := hP.set hD he (e := .inl (g.1, N, .inl (cr_up I b i.toNatClampNeg x0 b))) (by
    show H1[ad b]? = some (vp_cell _ _)
    rw [e, vp_cell_i, vp_cell_i, arrV_store]
    congr 2
    funext q
    by_cases hq : q = i.toNatClampNeg
    · subst hq
      simp [updV, cr_up]
    · simp [updV, cr_up, hq]) oq
  rw [← cr_ce_int (ad := ad) (g := g) (R := R) hkd, cr_wd_set hbn (fun x _ hx => cr_ce_upI hx)] at hP'
  exact k1 H1 _ la hP' (fun q => z.trans (hz q)) (hS.put z oq (hD.2 b _ he)) hl
theorem cr_aald (h : cr_Ok y cc nL ret rm K nS nE Γ) {b N x : Nat} {i : Int32} (hbn : b < n) (hkd : cr_kd b = (1, N)) (h0 : 0 ≤ i.toInt ∧ i.toInt < N) (hR : R b i.toNatClampNeg = some x) (d : decode cc pc = .ok (.aaload, 1)) (k1 : cr_V Γ (pc + 1) ls (.ref x :: st) I R n) : cr_V Γ pc ls (.int i :: .ref b :: st) I R n := by
  obtain ⟨⟨p, l, e, Rm, s, m, args, below, meth, c⟩, Q, D, g, ad, base, n0⟩ := Γ
  obtain ⟨hx, hb, hml, hown, hts, hK, hST, hlk, hrt, hA, hs0, hQ, hrm, hnm, hn0⟩ := h
  intro H locs la hP hz hS hl
  have hin := cr_vin h0.1 h0.2
  have hlt : i.toNatClampNeg < N := Nat.not_le.mp fun q => hin (Or.inr q)
  have he : (cr_wd ad g I R n)[b]? = some (ad b, .inl (g.2.1, N, .inr (.inr (.inr (.inr (fun j => (R b j).map ad)))))) := by rw [cr_wd_at hbn, cr_ce_row hkd]
  exact W.aald (v := .ref (ad x)) (ty := .array .int) hx hb (hP b _ he) ((hK.2 1 _ rfl).1 N (fun j => va_rf ((R b j).map ad))) rfl (fun q => by cases q) (by show ¬ (i < 0 ∨ (arrV _ _ _).slots.size ≤ _); rw [arrV_size]; exact hin) (by show (arrV _ _ _).slots[_]? = _; rw [arrV_read _ _ hlt]; simp only [hR]; rfl) rfl rfl d (k1 H locs la hP hz hS hl)
theorem cr_aaldM (h : cr_Ok y cc nL ret rm K nS nE Γ) {b N x : Nat} {i : Int32} (hbn : b < n) (hkd : cr_kd b = (2, N)) (h0 : 0 ≤ i.toInt ∧ i.toInt < N) (hR : R b i.toNatClampNeg = some x) (d : decode cc pc = .ok (.aaload, 1)) (k1 : cr_V Γ (pc + 1) ls (.ref x :: st) I R n) : cr_V Γ pc ls (.int i :: .ref b :: st) I R n := by
  obtain ⟨⟨p, l, e, Rm, s, m, args, below, meth, c⟩, Q, D, g, ad, base, n0⟩ := Γ
  obtain ⟨hx, hb, hml, hown, hts, hK, hST, hlk, hrt, hA, hs0, hQ, hrm, hnm, hn0⟩ := h
  intro H locs la hP hz hS hl
  have hin := cr_vin h0.1 h0.2
  have hlt : i.toNatClampNeg < N := Nat.not_le.mp fun q => hin (Or.inr q)
  have he : (cr_wd ad g I R n)[b]? = some (ad b, .inl (g.2.2, N, .inr (.inr (.inr (.inr (fun j => (R b j).map ad)))))) := by rw [cr_wd_at hbn, cr_ce_mak hkd]
  exact W.aald (v := .ref (ad x)) (ty := .object "CartRows$Make") hx hb (hP b _ he) ((hK.2 2 _ rfl).1 N (fun j => va_rf ((R b j).map ad))) rfl (fun q => by cases q) (by show ¬ (i < 0 ∨ (arrV _ _ _).slots.size ≤ _); rw [arrV_size]; exact hin) (by show (arrV _ _ _).slots[_]? = _; rw [arrV_read _ _ hlt]; simp only [hR]; rfl) rfl rfl d (k1 H locs la hP hz hS hl)
theorem cr_gets1000 (h : cr_Ok y cc nL ret rm K nS nE Γ) {i : Nat} (hw : Cond.fieldLink y.cls i "CartRows" "FACTORIALS" "[I" ∈ cr_GW) (d : decode cc pc = .ok (.getstatic i, 3)) (k1 : cr_V Γ (pc + 3) ls (.ref 1000 :: st) I R n) : cr_V Γ pc ls st I R n := by
  obtain ⟨⟨p, l, e, Rm, s, m, args, below, meth, c⟩, Q, D, g, ad, base, n0⟩ := Γ
  obtain ⟨hx, hb, hml, hown, hts, hK, hST, hlk, hrt, hA, hs0, hQ, hrm, hnm, hn0⟩ := h
  intro H locs la hP hz hS hl
  exact va_gets hx hb hST.1.1 hS hown (hts _ hw) (fun _ q => q) d (k1 H locs la hP hz hS hl)
theorem cr_sald1000 (h : cr_Ok y cc nL ret rm K nS nE Γ) {i : Int32} (h0 : 0 ≤ i.toInt ∧ i.toInt < 7) (d : decode cc pc = .ok (.iaload, 1)) (k1 : cr_V Γ (pc + 1) ls (.int (cr_tab 0 i.toNatClampNeg) :: st) I R n) : cr_V Γ pc ls (.int i :: .ref 1000 :: st) I R n := by
  obtain ⟨⟨p, l, e, Rm, s, m, args, below, meth, c⟩, Q, D, g, ad, base, n0⟩ := Γ
  obtain ⟨hx, hb, hml, hown, hts, hK, hST, hlk, hrt, hA, hs0, hQ, hrm, hnm, hn0⟩ := h
  intro H locs la hP hz hS hl
  exact va_ti hx hb hST.2.1.1 hS (cr_vin h0.1 h0.2) rfl d (k1 H locs la hP hz hS hl)
theorem cr_gets1001 (h : cr_Ok y cc nL ret rm K nS nE Γ) {i : Nat} (hw : Cond.fieldLink y.cls i "CartRows" "LEAST_SETTING" "[I" ∈ cr_GW) (d : decode cc pc = .ok (.getstatic i, 3)) (k1 : cr_V Γ (pc + 3) ls (.ref 1001 :: st) I R n) : cr_V Γ pc ls st I R n := by
  obtain ⟨⟨p, l, e, Rm, s, m, args, below, meth, c⟩, Q, D, g, ad, base, n0⟩ := Γ
  obtain ⟨hx, hb, hml, hown, hts, hK, hST, hlk, hrt, hA, hs0, hQ, hrm, hnm, hn0⟩ := h
  intro H locs la hP hz hS hl
  exact va_gets hx hb hST.1.2.1 hS hown (hts _ hw) (fun _ q => q) d (k1 H locs la hP hz hS hl)
theorem cr_sald1001 (h : cr_Ok y cc nL ret rm K nS nE Γ) {i : Int32} (h0 : 0 ≤ i.toInt ∧ i.toInt < 5) (d : decode cc pc = .ok (.iaload, 1)) (k1 : cr_V Γ (pc + 1) ls (.int (cr_tab 1 i.toNatClampNeg) :: st) I R n) : cr_V Γ pc ls (.int i :: .ref 1001 :: st) I R n := by
  obtain ⟨⟨p, l, e, Rm, s, m, args, below, meth, c⟩, Q, D, g, ad, base, n0⟩ := Γ
  obtain ⟨hx, hb, hml, hown, hts, hK, hST, hlk, hrt, hA, hs0, hQ, hrm, hnm, hn0⟩ := h
  intro H locs la hP hz hS hl
  exact va_ti hx hb hST.2.1.2.1 hS (cr_vin h0.1 h0.2) rfl d (k1 H locs la hP hz hS hl)
theorem cr_gets1002 (h : cr_Ok y cc nL ret rm K nS nE Γ) {i : Nat} (hw : Cond.fieldLink y.cls i "CartRows" "MOST_SETTING" "[I" ∈ cr_GW) (d : decode cc pc = .ok (.getstatic i, 3)) (k1 : cr_V Γ (pc + 3) ls (.ref 1002 :: st) I R n) : cr_V Γ pc ls st I R n := by
  obtain ⟨⟨p, l, e, Rm, s, m, args, below, meth, c⟩, Q, D, g, ad, base, n0⟩ := Γ
  obtain ⟨hx, hb, hml, hown, hts, hK, hST, hlk, hrt, hA, hs0, hQ, hrm, hnm, hn0⟩ := h
  intro H locs la hP hz hS hl
  exact va_gets hx hb hST.1.2.2.1 hS hown (hts _ hw) (fun _ q => q) d (k1 H locs la hP hz hS hl)
theorem cr_sald1002 (h : cr_Ok y cc nL ret rm K nS nE Γ) {i : Int32} (h0 : 0 ≤ i.toInt ∧ i.toInt < 5) (d : decode cc pc = .ok (.iaload, 1)) (k1 : cr_V Γ (pc + 1) ls (.int (cr_tab 2 i.toNatClampNeg) :: st) I R n) : cr_V Γ pc ls (.int i :: .ref 1002 :: st) I R n := by
  obtain ⟨⟨p, l, e, Rm, s, m, args, below, meth, c⟩, Q, D, g, ad, base, n0⟩ := Γ
  obtain ⟨hx, hb, hml, hown, hts, hK, hST, hlk, hrt, hA, hs0, hQ, hrm, hnm, hn0⟩ := h
  intro H locs la hP hz hS hl
  exact va_ti hx hb hST.2.1.2.2 hS (cr_vin h0.1 h0.2) rfl d (k1 H locs la hP hz hS hl)
theorem cr_getsN (h : cr_Ok y cc nL ret rm K nS nE Γ) (hy : y.cls = "CartRows$Shares") (d : decode cc pc = .ok (.getstatic 20, 3)) (k1 : cr_V Γ (pc + 3) ls (.ref 1000 :: st) I R n) : cr_V Γ pc ls st I R n := by
  obtain ⟨⟨p, l, e, Rm, s, m, args, below, meth, c⟩, Q, D, g, ad, base, n0⟩ := Γ
  obtain ⟨hx, hb, hml, hown, hts, hK, hST, hlk, hrt, hA, hs0, hQ, hrm, hnm, hn0⟩ := h
  intro H locs la hP hz hS hl
  rw [hy] at hown
  exact va_getsN hx hb hST.1.1 hS hown (va_Nw.use rfl hST.2.2.2.2.2.1.2.2.2.2.2.2.2.2.2) (fun _ q => q) d (k1 H locs la hP hz hS hl)
end CRH
