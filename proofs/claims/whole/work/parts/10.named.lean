def cr_rfT : List (List (Option Nat)) := [[some 1, some 27, some 137, some 169, some 177, some 185], [some 2, none, none, none, none], [], [none, some 4, some 5, some 6, some 13, some 20], [], [], [some 7, some 8, some 9, some 10, some 11, some 12], [], [], [], [], [], [], [some 14, some 15, some 16, some 17, some 18, some 19], [], [], [], [], [], [], [some 21, some 22, some 23, some 24, some 25, some 26], [], [], [], [], [], [], [some 28, none, some 129, some 130, none, none, some 131, some 132, none, some 133, some 134, some 135, some 136, none, none, none, none], [some 29, some 54, some 79, some 104], [none, none, none, none, none], [none, some 31, some 32, some 33, some 40, some 47], [], [], [some 34, some 35, some 36, some 37, some 38, some 39], [], [], [], [], [], [], [some 41, some 42, some 43, some 44, some 45, some 46], [], [], [], [], [], [], [some 48, some 49, some 50, some 51, some 52, some 53], [], [], [], [], [], [], [none, none, none, none, none], [none, some 56, some 57, some 58, some 65, some 72], [], [], [some 59, some 60, some 61, some 62, some 63, some 64], [], [], [], [], [], [], [some 66, some 67, some 68, some 69, some 70, some 71], [], [], [], [], [], [], [some 73, some 74, some 75, some 76, some 77, some 78], [], [], [], [], [], [], [none, none, none, none, none], [none, some 81, some 82, some 83, some 90, some 97], [], [], [some 84, some 85, some 86, some 87, some 88, some 89], [], [], [], [], [], [], [some 91, some 92, some 93, some 94, some 95, some 96], [], [], [], [], [], [], [some 98, some 99, some 100, some 101, some 102, some 103], [], [], [], [], [], [], [none, none, none, none, none], [none, some 106, some 107, some 108, some 115, some 122], [], [], [some 109, some 110, some 111, some 112, some 113, some 114], [], [], [], [], [], [], [some 116, some 117, some 118, some 119, some 120, some 121], [], [], [], [], [], [], [some 123, some 124, some 125, some 126, some 127, some 128], [], [], [], [], [], [], [], [], [], [], [], [], [], [], [some 138, some 145, some 152, some 159, some 166, some 167, none, none, some 168, none], [some 139, some 140, some 141, some 142, some 143, some 144], [], [], [], [], [], [], [some 146, some 147, some 148, some 149, some 150, some 151], [], [], [], [], [], [], [some 153, some 154, some 155, some 156, some 157, some 158], [], [], [], [], [], [], [some 160, some 161, some 162, some 163, some 164, some 165], [], [], [], [], [], [], [], [], [], [none, some 170, some 171, some 172, some 173, some 174, some 175, some 176], [], [], [], [], [], [], [], [some 178], [some 179, some 180, some 181, some 182, some 183, some 184], [], [], [], [], [], [], [some 186, none, some 187, some 188, none, some 189, some 190, some 191, some 192], [], [], [], [], [], [], [some 193, some 194, some 195, some 196, some 197, some 198, some 199], [], [], [], [], [], [], [], [some 201, some 202, some 203, some 204, some 205, none, some 206, some 207, some 208, some 209, some 210, some 211, some 212, none, some 213, some 214, some 215, some 216, none, none, some 217, some 218, some 219, some 220, none, none, none, none, none, some 221, some 222, some 223, some 224, some 225, none, some 226, some 227, some 228, some 229, none, some 230, some 231, some 232, none, none, none, none, none, some 233, some 234, some 235, some 236, some 237, some 238, some 239, none, none, some 240, some 241, some 242, none, some 243, some 244, some 245, some 246], [], [], [], [], [], [], [], [], [], [], [], [], [], [], [], [], [], [], [], [], [], [], [], [], [], [], [], [], [], [], [], [], [], [], [], [], [], [], [], [], [], [], [], [], [], []]
/-- the references once all is made; tau 0 .. 3: the tables of the makes, tau 4: the parsed one -/
def cr_rf (τ : Nat → Nat) (b k : Nat) : Option Nat := if b = 1 ∧ k = 2 then some (τ 4) else if k = 4 ∧ b = 29 then some (τ 0) else if k = 4 ∧ b = 54 then some (τ 1) else if k = 4 ∧ b = 79 then some (τ 2) else if k = 4 ∧ b = 104 then some (τ 3) else (cr_rfT.getD b []).getD k none
def cr_isT (b : Nat) : Prop := b = 3 ∨ b = 30 ∨ b = 55 ∨ b = 80 ∨ b = 105
/-- the five tables are the five tables -/
def cr_tau (τ : Nat → Nat) : Prop := (∀ j, j < 5 → cr_isT (τ j)) ∧ ∀ i j, i < 5 → j < 5 → τ i = τ j → i = j
theorem cr_nn {i : Int32} {N : Nat} (h : 0 ≤ i.toInt ∧ i.toInt < N) : i.toNatClampNeg < N := by
  show i.toInt.toNat < N
  omega
theorem kr_138 {i : Int32} (h : 0 ≤ i.toInt ∧ i.toInt < 6) : 139 + i.toNatClampNeg < 247 ∧ cr_kd (139 + i.toNatClampNeg) = (0, 33) ∧ ∀ τ, cr_rf τ 138 i.toNatClampNeg = some (139 + i.toNatClampNeg) := by
  have h1 := cr_nn (N := 6) h
  generalize i.toNatClampNeg = j at h1 ⊢
  refine ⟨by omega, ?_, fun τ => ?_⟩
  · revert h1; revert j; decide +kernel
  · have : ∀ j, j < 6 → (cr_rfT.getD 138 []).getD j none = some (139 + j) := by decide +kernel
    rw [← this j h1]
    simp [cr_rf]
theorem kr_145 {i : Int32} (h : 0 ≤ i.toInt ∧ i.toInt < 6) : 146 + i.toNatClampNeg < 247 ∧ cr_kd (146 + i.toNatClampNeg) = (0, 33) ∧ ∀ τ, cr_rf τ 145 i.toNatClampNeg = some (146 + i.toNatClampNeg) := by
  have h1 := cr_nn (N := 6) h
  generalize i.toNatClampNeg = j at h1 ⊢
  refine ⟨by omega, ?_, fun τ => ?_⟩
  · revert h1; revert j; decide +kernel
  · have : ∀ j, j < 6 → (cr_rfT.getD 145 []).getD j none = some (146 + j) := by decide +kernel
    rw [← this j h1]
    simp [cr_rf]
theorem kr_152 {i : Int32} (h : 0 ≤ i.toInt ∧ i.toInt < 6) : 153 + i.toNatClampNeg < 247 ∧ cr_kd (153 + i.toNatClampNeg) = (0, 33) ∧ ∀ τ, cr_rf τ 152 i.toNatClampNeg = some (153 + i.toNatClampNeg) := by
  have h1 := cr_nn (N := 6) h
  generalize i.toNatClampNeg = j at h1 ⊢
  refine ⟨by omega, ?_, fun τ => ?_⟩
  · revert h1; revert j; decide +kernel
  · have : ∀ j, j < 6 → (cr_rfT.getD 152 []).getD j none = some (153 + j) := by decide +kernel
    rw [← this j h1]
    simp [cr_rf]
theorem kr_159 {i : Int32} (h : 0 ≤ i.toInt ∧ i.toInt < 6) : 160 + i.toNatClampNeg < 247 ∧ cr_kd (160 + i.toNatClampNeg) = (0, 32) ∧ ∀ τ, cr_rf τ 159 i.toNatClampNeg = some (160 + i.toNatClampNeg) := by
  have h1 := cr_nn (N := 6) h
  generalize i.toNatClampNeg = j at h1 ⊢
  refine ⟨by omega, ?_, fun τ => ?_⟩
  · revert h1; revert j; decide +kernel
  · have : ∀ j, j < 6 → (cr_rfT.getD 159 []).getD j none = some (160 + j) := by decide +kernel
    rw [← this j h1]
    simp [cr_rf]
theorem kr_178 {i : Int32} (h : 0 ≤ i.toInt ∧ i.toInt < 6) : 179 + i.toNatClampNeg < 247 ∧ cr_kd (179 + i.toNatClampNeg) = (0, 6) ∧ ∀ τ, cr_rf τ 178 i.toNatClampNeg = some (179 + i.toNatClampNeg) := by
  have h1 := cr_nn (N := 6) h
  generalize i.toNatClampNeg = j at h1 ⊢
  refine ⟨by omega, ?_, fun τ => ?_⟩
  · revert h1; revert j; decide +kernel
  · have : ∀ j, j < 6 → (cr_rfT.getD 178 []).getD j none = some (179 + j) := by decide +kernel
    rw [← this j h1]
    simp [cr_rf]
theorem kr_192 {i : Int32} (h : 0 ≤ i.toInt ∧ i.toInt < 7) : 193 + i.toNatClampNeg < 247 ∧ cr_kd (193 + i.toNatClampNeg) = (0, 7) ∧ ∀ τ, cr_rf τ 192 i.toNatClampNeg = some (193 + i.toNatClampNeg) := by
  have h1 := cr_nn (N := 7) h
  generalize i.toNatClampNeg = j at h1 ⊢
  refine ⟨by omega, ?_, fun τ => ?_⟩
  · revert h1; revert j; decide +kernel
  · have : ∀ j, j < 7 → (cr_rfT.getD 192 []).getD j none = some (193 + j) := by decide +kernel
    rw [← this j h1]
    simp [cr_rf]
theorem kr_28 {i : Int32} (h : 0 ≤ i.toInt ∧ i.toInt < 4) : 29 + 25 * i.toNatClampNeg < 247 ∧ cr_kd (29 + 25 * i.toNatClampNeg) = (5, 5) ∧ (∀ τ, cr_rf τ 28 i.toNatClampNeg = some (29 + 25 * i.toNatClampNeg)) ∧ ∀ τ, cr_rf τ (29 + 25 * i.toNatClampNeg) 4 = some (τ i.toNatClampNeg) := by
  have h1 := cr_nn (N := 4) h
  generalize i.toNatClampNeg = j at h1 ⊢
  rcases (show j = 0 ∨ j = 1 ∨ j = 2 ∨ j = 3 by omega) with rfl | rfl | rfl | rfl <;> exact ⟨by decide, rfl, fun τ => rfl, fun τ => rfl⟩
/-- a table's parts -/
theorem kt_t {b : Nat} (h : cr_isT b) : b + 24 ≤ 247 ∧ cr_kd b = (9, 6) ∧ cr_kd (b + 1) = (0, 6) ∧ cr_kd (b + 2) = (0, 6) ∧ cr_kd (b + 3) = (1, 6) ∧ cr_kd (b + 10) = (1, 6) ∧ cr_kd (b + 17) = (1, 6) ∧ ∀ τ, cr_rf τ b 1 = some (b + 1) ∧ cr_rf τ b 2 = some (b + 2) ∧ cr_rf τ b 3 = some (b + 3) ∧ cr_rf τ b 4 = some (b + 10) ∧ cr_rf τ b 5 = some (b + 17) := by
  rcases h with rfl | rfl | rfl | rfl | rfl <;> exact ⟨by decide, rfl, rfl, rfl, rfl, rfl, rfl, fun τ => ⟨rfl, rfl, rfl, rfl, rfl⟩⟩
theorem kt_r {b o : Nat} {i : Int32} (h : cr_isT b) (ho : o = 3 ∨ o = 10 ∨ o = 17) (hi : 0 ≤ i.toInt ∧ i.toInt < 6) : b + o + 1 + i.toNatClampNeg < 247 ∧ cr_kd (b + o + 1 + i.toNatClampNeg) = (0, 4) ∧ ∀ τ, cr_rf τ (b + o) i.toNatClampNeg = some (b + o + 1 + i.toNatClampNeg) := by
  have h1 := cr_nn (N := 6) hi
  generalize i.toNatClampNeg = j at h1 ⊢
  have key : ∀ b, b ∈ [3, 30, 55, 80, 105] → ∀ o, o ∈ [3, 10, 17] → ∀ j, j < 6 → b + o + 1 + j < 247 ∧ cr_kd (b + o + 1 + j) = (0, 4) ∧ (cr_rfT.getD (b + o) []).getD j none = some (b + o + 1 + j) := by decide +kernel
  have hb : b ∈ [3, 30, 55, 80, 105] := by rcases h with rfl | rfl | rfl | rfl | rfl <;> decide
  have ho' : o ∈ [3, 10, 17] := by rcases ho with rfl | rfl | rfl <;> decide
  obtain ⟨k1, k2, k3⟩ := key b hb o ho' j h1
  refine ⟨k1, k2, fun τ => ?_⟩
  rw [← k3]
  have n1 : b + o ≠ 1 ∧ b + o ≠ 29 ∧ b + o ≠ 54 ∧ b + o ≠ 79 ∧ b + o ≠ 104 := by
    rcases h with rfl | rfl | rfl | rfl | rfl <;> rcases ho with rfl | rfl | rfl <;> decide
  simp [cr_rf, n1]
/-- locals forgotten -/
def cr_drop : List Value → List Bool → List Value
  | v :: vs, b :: bs => (match b with | true => v | false => .null) :: cr_drop vs bs
  | _, _ => []
theorem cr_drop_at : ∀ (vs : List Value) (bs : List Bool) (i : Nat) (v : Value), (cr_drop vs bs)[i]? = some v → v ≠ .null → vs[i]? = some v
  | [], bs, i, v, h, _ => by simp [cr_drop] at h
  | x :: vs, [], i, v, h, _ => by simp [cr_drop] at h
  | x :: vs, b :: bs, 0, v, h, hn => by
    cases b
    · simp [cr_drop] at h
      exact absurd h.symm hn
    · simp [cr_drop] at h
      simp [h]
  | x :: vs, b :: bs, i + 1, v, h, hn => by
    simp only [cr_drop, List.getElem?_cons_succ] at h ⊢
    exact cr_drop_at vs bs i v h hn
theorem cr_weak {Γ : cr_G} {pc : Nat} {ls st : List Value} {I : cr_I} {R : cr_R} {n : Nat} (bs : List Bool) (k : cr_V Γ pc (cr_drop ls bs) st I R n) : cr_V Γ pc ls st I R n := by
  obtain ⟨⟨p, l, e, Rm, s, m, args, below, meth, c⟩, Q, D, g, ad, base, n0⟩ := Γ
  intro H locs la hP hz hS hl
  refine k H locs la hP hz hS (cr_mono hl fun q hq => ?_)
  obtain ⟨v, h1, h2, h3⟩ := cr_la_of hq
  have := cr_la_in (ad := ad) (cr_drop_at ls bs q.1 v h1 h2) h2
  rw [← h3] at this
  exact this
theorem cr_ite {Γ : cr_G} {pc : Nat} {ls st : List Value} {I : cr_I} {R : cr_R} {n : Nat} {x y : Int32} (e : x = y) (k : cr_V Γ pc ls (.int x :: st) I R n) : cr_V Γ pc ls (.int y :: st) I R n := e ▸ k
/-- rooms that make nothing -/
abbrev cr_rm0 (f q : Nat) : Room := { frames := f, cells := 0, slots := 0, locals := q }
theorem cr_rmS {f q f' q' nLz : Nat} (h1 : f' + 1 ≤ f) (h2 : 19 + nLz + q' ≤ q) : cr_rm (cr_rm0 f q) (cr_rm0 f' q') nLz 247 247 247 247 := ⟨⟨h1, by show 8 + (nLz + 11) + q' ≤ q; omega⟩, ⟨rfl, (Nat.sub_self _).symm⟩, ⟨Nat.le_refl _, Nat.le_refl _, Nat.le_refl _⟩, rfl, (Nat.sub_self _).symm⟩
section CRF
variable {y : MethodName} {cc : ByteArray} {nL : Nat} {ret : Option FieldType} {rm : Room} {K : cr_K} {nS nE : Nat} {Γ : cr_G} {pc : Nat} {ls ls' st : List Value} {I : cr_I} {R : cr_R} {n : Nat}
theorem cs_i_n (h : cr_Ok y cc nL ret rm K nS nE Γ) {i : Fin 4} {x : Int32} (j : Nat) (hi : (i : Nat) = j) (hj : j < nL) (hn : cr_nl ls j = true) (d : decode cc pc = .ok (.istore_n i, 1)) (k : ∀ z, z = x → cr_V Γ (pc + 1) (ls.set j (.int z)) st I R n) : cr_V Γ pc ls (.int x :: st) I R n := cr_istore_n h hi hj hn d (k x rfl)
theorem cs_i (h : cr_Ok y cc nL ret rm K nS nE Γ) {x : Int32} (j : Nat) (hj : j < nL) (hn : cr_nl ls j = true) (d : decode cc pc = .ok (.istore j, 2)) (k : ∀ z, z = x → cr_V Γ (pc + 2) (ls.set j (.int z)) st I R n) : cr_V Γ pc ls (.int x :: st) I R n := cr_istore h hj hn d (k x rfl)
theorem cs_inc (h : cr_Ok y cc nL ret rm K nS nE Γ) {i : Int} {x v : Int32} (j : Nat) (hv : ls[j]? = some (.int x)) (he : Int32.ofInt i = v) (hj : j < nL) (hn : cr_nl ls j = true) (d : decode cc pc = .ok (.iinc j i, 3)) (k : ∀ z, z = x + v → cr_V Γ (pc + 3) (ls.set j (.int z)) st I R n) : cr_V Γ pc ls st I R n := cr_iinc h hv (by rw [he]) hj hn d (k _ rfl)
theorem cs_ild (h : cr_Ok y cc nL ret rm K nS nE Γ) {b N q : Nat} {i : Int32} (hbn : b < n) (hkd : cr_kd b = (0, N)) (h0 : 0 ≤ i.toInt ∧ i.toInt < N) (hq : i.toNatClampNeg = q) (d : decode cc pc = .ok (.iaload, 1)) (k1 : cr_V Γ (pc + 1) ls (.int (I b q) :: st) I R n) : cr_V Γ pc ls (.int i :: .ref b :: st) I R n := cr_iald h hbn hkd h0 d (by rw [hq]; exact k1)
theorem cs_ist (h : cr_Ok y cc nL ret rm K nS nE Γ) {b N q : Nat} {i x0 : Int32} (hbn : b < n) (hnn : n ≤ 1000) (hkd : cr_kd b = (0, N)) (h0 : 0 ≤ i.toInt ∧ i.toInt < N) (hq : i.toNatClampNeg = q) (d : decode cc pc = .ok (.iastore, 1)) (k1 : ∀ J, J = cr_up I b q x0 → cr_V Γ (pc + 1) ls st J R n) : cr_V Γ pc ls (.int x0 :: .int i :: .ref b :: st) I R n := cr_iast h hbn hnn hkd h0 d (k1 _ (by rw [hq]))
theorem cs_put (h : cr_Ok y cc nL ret rm K nS nE Γ) {i b k c0 N : Nat} {C : String} {T : u_T} {ty : Nat → FieldType} {x0 : Int32} (hc : cr_cls c0 C T N ty) (hk : k < N) (hf : cr_fi c0 k = true) (hty : ty k = .int) (hT : (T k).1 = C) (hfin : (T k).2.2.2 = false) (hw : Cond.fieldLink y.cls i C (T k).2.1 (T k).2.2.1 ∈ cr_GW) (hbn : b < n) (hnn : n ≤ 1000) (hkd : cr_kd b = (c0 + 3, N)) (d : decode cc pc = .ok (.putfield i, 3)) (k1 : ∀ J, J = cr_up I b k x0 → cr_V Γ (pc + 3) ls st J R n) : cr_V Γ pc ls (.int x0 :: .ref b :: st) I R n := cr_putI h hc hk hf hty hT hfin hw hbn hnn hkd d (k1 _ rfl)
theorem cs_sald {t : Nat} (h : cr_Ok y cc nL ret rm K nS nE Γ) {i : Int32} {q : Nat} (ht : t = 1000 ∧ (0 ≤ i.toInt ∧ i.toInt < 7) ∨ t = 1001 ∧ (0 ≤ i.toInt ∧ i.toInt < 5) ∨ t = 1002 ∧ (0 ≤ i.toInt ∧ i.toInt < 5)) (hq : i.toNatClampNeg = q) (d : decode cc pc = .ok (.iaload, 1)) (k1 : cr_V Γ (pc + 1) ls (.int (cr_tab (t - 1000) q) :: st) I R n) : cr_V Γ pc ls (.int i :: .ref t :: st) I R n := by
  rcases ht with ⟨rfl, h0⟩ | ⟨rfl, h0⟩ | ⟨rfl, h0⟩
  · exact cr_sald1000 h h0 d (by rw [hq]; exact k1)
  · exact cr_sald1001 h h0 d (by rw [hq]; exact k1)
  · exact cr_sald1002 h h0 d (by rw [hq]; exact k1)
/-- a switch over 0 .. 6 and the like, as a tree -/
theorem cs_sw (h : cr_Ok y cc nL ret rm K nS nE Γ) {dflt hi : Int} {offs : Array Int} {len : Nat} {x0 : Int32} {dt : Nat} (ts : List Nat) (hlo : (0 : Int) ≤ hi) (hn : (ts.length : Int) = hi + 1) (hd : (pc : Int) + dflt = (dt : Int)) (ho : ∀ j, j < ts.length → (offs[j]?).map (fun q => (pc : Int) + q) = some ((ts.getD j 0 : Nat) : Int)) (d : decode cc pc = .ok (.tableswitch dflt 0 hi offs, len)) (kd : (x0.toInt < 0 ∨ hi < x0.toInt) → cr_V Γ dt ls st I R n) (ki : ∀ j : Nat, j < ts.length → x0 = Int32.ofNat j → cr_V Γ (ts.getD j 0) ls st I R n) : cr_V Γ pc ls (.int x0 :: st) I R n := by
  by_cases hr : x0.toInt < 0 ∨ hi < x0.toInt
  · exact cr_swOut h hr hd d (kd hr)
  · have h1 : ¬ x0.toInt < 0 := fun q => hr (Or.inl q)
    have h2 : ¬ hi < x0.toInt := fun q => hr (Or.inr q)
    obtain ⟨j, hj⟩ : ∃ j : Nat, x0.toInt = j := ⟨x0.toInt.toNat, by omega⟩
    have hjl : j < ts.length := by omega
    have hx : x0 = Int32.ofNat j := by
      apply Int32.toInt_inj.mp
      rw [hj]
      have h3 := Int32.toInt_lt x0
      rw [Int32.toInt_ofNat_of_lt (by omega)]
    have h4 := ho j hjl
    cases hof : offs[j]? with
    | none => rw [hof] at h4; simp at h4
    | some q =>
      rw [hof] at h4
      simp at h4
      refine cr_swIn h h1 h2 (off := q) (tgt := ts.getD j 0) ?_ ?_ d (ki j hjl hx)
      · rw [hj]
        simpa using hof
      · simp
        exact h4
end CRF
