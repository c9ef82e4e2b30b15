/-! THE WORLD: blocks in the order in which the constructors make them; kind 0 int[], 1 int[][], 2 Make[], c+3 an object of class c -/
def cr_kdT : List (Nat × Nat) := [(11, 6), (10, 5), (0, 160), (9, 6), (0, 6), (0, 6), (1, 6), (0, 4), (0, 4), (0, 4), (0, 4), (0, 4), (0, 4), (1, 6), (0, 4), (0, 4), (0, 4), (0, 4), (0, 4), (0, 4), (1, 6), (0, 4), (0, 4), (0, 4), (0, 4), (0, 4), (0, 4), (6, 17), (2, 4), (5, 5), (9, 6), (0, 6), (0, 6), (1, 6), (0, 4), (0, 4), (0, 4), (0, 4), (0, 4), (0, 4), (1, 6), (0, 4), (0, 4), (0, 4), (0, 4), (0, 4), (0, 4), (1, 6), (0, 4), (0, 4), (0, 4), (0, 4), (0, 4), (0, 4), (5, 5), (9, 6), (0, 6), (0, 6), (1, 6), (0, 4), (0, 4), (0, 4), (0, 4), (0, 4), (0, 4), (1, 6), (0, 4), (0, 4), (0, 4), (0, 4), (0, 4), (0, 4), (1, 6), (0, 4), (0, 4), (0, 4), (0, 4), (0, 4), (0, 4), (5, 5), (9, 6), (0, 6), (0, 6), (1, 6), (0, 4), (0, 4), (0, 4), (0, 4), (0, 4), (0, 4), (1, 6), (0, 4), (0, 4), (0, 4), (0, 4), (0, 4), (0, 4), (1, 6), (0, 4), (0, 4), (0, 4), (0, 4), (0, 4), (0, 4), (5, 5), (9, 6), (0, 6), (0, 6), (1, 6), (0, 4), (0, 4), (0, 4), (0, 4), (0, 4), (0, 4), (1, 6), (0, 4), (0, 4), (0, 4), (0, 4), (0, 4), (0, 4), (1, 6), (0, 4), (0, 4), (0, 4), (0, 4), (0, 4), (0, 4), (0, 6), (0, 5), (0, 8), (0, 8), (0, 2), (0, 2), (0, 2), (0, 2), (7, 10), (1, 6), (0, 33), (0, 33), (0, 33), (0, 33), (0, 33), (0, 33), (1, 6), (0, 33), (0, 33), (0, 33), (0, 33), (0, 33), (0, 33), (1, 6), (0, 33), (0, 33), (0, 33), (0, 33), (0, 33), (0, 33), (1, 6), (0, 32), (0, 32), (0, 32), (0, 32), (0, 32), (0, 32), (0, 32), (0, 32), (0, 6), (4, 8), (0, 5), (0, 5), (0, 5), (0, 5), (0, 5), (0, 5), (0, 5), (8, 1), (1, 6), (0, 6), (0, 6), (0, 6), (0, 6), (0, 6), (0, 6), (3, 9), (0, 7), (0, 12), (0, 12), (0, 12), (0, 12), (0, 12), (1, 7), (0, 7), (0, 7), (0, 7), (0, 7), (0, 7), (0, 7), (0, 7), (12, 65), (0, 4), (0, 4), (0, 4), (0, 4), (0, 160), (0, 5), (0, 30), (0, 30), (0, 30), (0, 120), (0, 120), (0, 120), (0, 6), (0, 5), (0, 8), (0, 8), (0, 2), (0, 2), (0, 2), (0, 2), (0, 5), (0, 5), (0, 5), (0, 5), (0, 5), (0, 36), (0, 6), (0, 12), (0, 12), (0, 12), (0, 12), (0, 12), (0, 192), (0, 192), (0, 192), (0, 192), (0, 192), (0, 192), (0, 32), (0, 6), (0, 6), (0, 6), (0, 5), (0, 5), (0, 6), (0, 6)]
def cr_fiT : List (List Bool) := [[false, true, false, false, true, false, false, false, false], [true, false, false, false, false, false, false, false], [true, true, true, true, false], [false, true, false, false, true, true, false, false, true, false, false, false, false, true, true, true, true], [false, false, false, false, false, false, true, true, false, true], [false], [true, false, false, false, false, false], [false, true, false, true, true], [false, false, false, false, false, false], [false, false, false, false, false, true, false, false, false, false, false, false, false, true, false, false, false, false, true, true, false, false, false, false, true, true, true, true, true, false, false, false, false, false, true, false, false, false, false, true, false, false, false, true, true, true, true, true, false, false, false, false, false, false, false, true, true, false, false, false, true, false, false, false, false]]
abbrev cr_cl : List vw_C := [(RX0, TX0, 9), (RX1, TX1, 8), (RX2, TX2, 5), (RX3, TX3, 17), (RX4, TX4, 10), (RX5, TX5, 1), (RX6, TX6, 6), (RX7, TX7, 5), (RX8, TX8, 6), (RX9, TX9, 65)]
abbrev cr_I : Type := Nat → Nat → Int32
abbrev cr_R : Type := Nat → Nat → Option Nat
def cr_up {α : Type} (f : Nat → Nat → α) (b k : Nat) (v : α) : Nat → Nat → α := fun b' k' => if b' = b ∧ k' = k then v else f b' k'
theorem cr_up_s {α : Type} {f : Nat → Nat → α} {b k : Nat} {v : α} : cr_up f b k v b k = v := by simp [cr_up]
theorem cr_up_b {α : Type} {f : Nat → Nat → α} {b k b' k' : Nat} {v : α} (h : b' ≠ b) : cr_up f b k v b' k' = f b' k' := by simp [cr_up, h]
theorem cr_up_k {α : Type} {f : Nat → Nat → α} {b k b' k' : Nat} {v : α} (h : k' ≠ k) : cr_up f b k v b' k' = f b' k' := by simp [cr_up, h]
def cr_kd (b : Nat) : Nat × Nat := cr_kdT.getD b (0, 0)
def cr_fi (c k : Nat) : Bool := (cr_fiT.getD c []).getD k false
def cr_sl (n : Nat) : Nat := ((cr_kdT.take n).map (fun q => q.2)).sum
abbrev cr_g : Type := ClassId × ClassId × ClassId
def cr_tr (ad : Nat → Nat) (v : Value) : Value := match v with
  | .ref b => .ref (ad b)
  | w => w
theorem cr_tr_cat (ad : Nat → Nat) (v : Value) : (cr_tr ad v).category = v.category := by cases v <;> rfl
def cr_fs (ad : Nat → Nat) (I : cr_I) (R : cr_R) (c N b : Nat) : List Value := (List.range N).map fun k => if cr_fi c k = true then .int (I b k) else va_rf ((R b k).map ad)
def cr_ce (ad : Nat → Nat) (g : cr_g) (I : cr_I) (R : cr_R) (b : Nat) : va_E := match (cr_kd b).1 with
  | 0 => .inl (g.1, (cr_kd b).2, .inl (I b))
  | 1 => .inl (g.2.1, (cr_kd b).2, .inr (.inr (.inr (.inr (fun j => (R b j).map ad)))))
  | 2 => .inl (g.2.2, (cr_kd b).2, .inr (.inr (.inr (.inr (fun j => (R b j).map ad)))))
  | c + 3 => .inr (c, cr_fs ad I R c (cr_kd b).2 b)
def cr_wd (ad : Nat → Nat) (g : cr_g) (I : cr_I) (R : cr_R) (n : Nat) : va_W := (List.range n).map fun b => (ad b, cr_ce ad g I R b)
abbrev cr_ty (g : cr_g) : List (ClassId × FieldType) := [(g.1, .int), (g.2.1, .array .int), (g.2.2, .object "CartRows$Make")]
def cr_ad (ad : Nat → Nat) (base : Nat) : Prop := ∀ b, b < 1000 → ad b = base + b
theorem cr_wd_at {ad : Nat → Nat} {g : cr_g} {I : cr_I} {R : cr_R} {n b : Nat} (h : b < n) : (cr_wd ad g I R n)[b]? = some (ad b, cr_ce ad g I R b) := by
  unfold cr_wd
  rw [List.getElem?_map, List.getElem?_range h]
  rfl
theorem cr_wd_get {ad : Nat → Nat} {g : cr_g} {I : cr_I} {R : cr_R} {n b : Nat} {q : Nat × va_E} (h : (cr_wd ad g I R n)[b]? = some q) : b < n ∧ q = (ad b, cr_ce ad g I R b) := by
  have hb : b < n := by
    have := (List.getElem?_eq_some_iff.mp h).1
    simpa [cr_wd] using this
  rw [cr_wd_at hb] at h
  exact ⟨hb, (Option.some.inj h).symm⟩
theorem cr_wd_D {ad : Nat → Nat} {g : cr_g} {I : cr_I} {R : cr_R} {n base : Nat} (ha : cr_ad ad base) (hn : n ≤ 1000) : va_D (fun q => base ≤ q) (cr_wd ad g I R n) := by
  refine ⟨fun i j p q hp hq e => ?_, fun k q hq => ?_⟩
  · obtain ⟨h1, rfl⟩ := cr_wd_get hp
    obtain ⟨h2, rfl⟩ := cr_wd_get hq
    have e1 := ha i (by omega)
    have e2 := ha j (by omega)
    simp only at e
    omega
  · obtain ⟨h1, rfl⟩ := cr_wd_get hq
    have e1 := ha k (by omega)
    simp only
    omega
theorem cr_wd_set {ad : Nat → Nat} {g : cr_g} {I I' : cr_I} {R R' : cr_R} {n b : Nat} (hb : b < n) (h : ∀ x, x < n → x ≠ b → cr_ce ad g I' R' x = cr_ce ad g I R x) : (cr_wd ad g I R n).set b (ad b, cr_ce ad g I' R' b) = cr_wd ad g I' R' n := by
  apply List.ext_getElem?
  intro k
  by_cases hk : k = b
  · subst hk
    rw [List.getElem?_set_self (by simp [cr_wd]; exact hb), cr_wd_at hb]
  · rw [List.getElem?_set_ne (Ne.symm hk)]
    by_cases hn : k < n
    · rw [cr_wd_at hn, cr_wd_at hn, h k hn hk]
    · rw [List.getElem?_eq_none (by simp [cr_wd]; omega), List.getElem?_eq_none (by simp [cr_wd]; omega)]
theorem cr_ce_upI {ad : Nat → Nat} {g : cr_g} {I : cr_I} {R : cr_R} {b k x : Nat} {v : Int32} (h : x ≠ b) : cr_ce ad g (cr_up I b k v) R x = cr_ce ad g I R x := by
  have e : ∀ j, cr_up I b k v x j = I x j := fun j => cr_up_b h
  have e2 : cr_up I b k v x = I x := funext e
  unfold cr_ce cr_fs
  simp only [e, e2]
theorem cr_ce_upR {ad : Nat → Nat} {g : cr_g} {I : cr_I} {R : cr_R} {b k x : Nat} {v : Option Nat} (h : x ≠ b) : cr_ce ad g I (cr_up R b k v) x = cr_ce ad g I R x := by
  have e : ∀ j, cr_up R b k v x j = R x j := fun j => cr_up_b h
  unfold cr_ce cr_fs
  simp only [e]
theorem cr_fs_at {ad : Nat → Nat} {I : cr_I} {R : cr_R} {c N b k : Nat} (h : k < N) : (cr_fs ad I R c N b)[k]? = some (if cr_fi c k = true then .int (I b k) else va_rf ((R b k).map ad)) := by
  unfold cr_fs
  rw [List.getElem?_map, List.getElem?_range h]
  rfl
theorem cr_fs_len {ad : Nat → Nat} {I : cr_I} {R : cr_R} {c N b : Nat} : (cr_fs ad I R c N b).length = N := by simp [cr_fs]
theorem cr_fs_upI {ad : Nat → Nat} {I : cr_I} {R : cr_R} {c N b k : Nat} {v : Int32} (h : cr_fi c k = true) : (cr_fs ad I R c N b).set k (.int v) = cr_fs ad (cr_up I b k v) R c N b := by
  apply List.ext_getElem?
  intro j
  by_cases hj : j < N
  · by_cases e : j = k
    · subst e
      rw [List.getElem?_set_self (by rw [cr_fs_len]; exact hj), cr_fs_at hj, if_pos h, cr_up_s]
    · rw [List.getElem?_set_ne (Ne.symm e), cr_fs_at hj, cr_fs_at hj, cr_up_k e]
  · rw [List.getElem?_eq_none (by simp [cr_fs]; omega), List.getElem?_eq_none (by simp [cr_fs]; omega)]
theorem cr_fs_upR {ad : Nat → Nat} {I : cr_I} {R : cr_R} {c N b k x : Nat} (h : cr_fi c k = false) : (cr_fs ad I R c N b).set k (.ref (ad x)) = cr_fs ad I (cr_up R b k (some x)) c N b := by
  apply List.ext_getElem?
  intro j
  by_cases hj : j < N
  · by_cases e : j = k
    · subst e
      rw [List.getElem?_set_self (by rw [cr_fs_len]; exact hj), cr_fs_at hj, if_neg (by rw [h]; decide), cr_up_s]
      rfl
    · rw [List.getElem?_set_ne (Ne.symm e), cr_fs_at hj, cr_fs_at hj, cr_up_k e]
  · rw [List.getElem?_eq_none (by simp [cr_fs]; omega), List.getElem?_eq_none (by simp [cr_fs]; omega)]
/-- the locals: a .null in the list says nothing -/
def cr_la (ad : Nat → Nat) (ls : List Value) : List (Nat × Value) := (List.range ls.length).filterMap fun i => match ls[i]? with
  | none => none
  | some Value.null => none
  | some v => some (i, cr_tr ad v)
theorem cr_la_in {ad : Nat → Nat} {ls : List Value} {i : Nat} {v : Value} (h : ls[i]? = some v) (hn : v ≠ .null) : (i, cr_tr ad v) ∈ cr_la ad ls := by
  refine List.mem_filterMap.mpr ⟨i, List.mem_range.mpr (List.getElem?_eq_some_iff.mp h).1, ?_⟩
  rw [h]
  cases v <;> first | exact absurd rfl hn | rfl
theorem cr_la_of {ad : Nat → Nat} {ls : List Value} {q : Nat × Value} (h : q ∈ cr_la ad ls) : ∃ v, ls[q.1]? = some v ∧ v ≠ .null ∧ q.2 = cr_tr ad v := by
  obtain ⟨i, -, hi⟩ := List.mem_filterMap.mp h
  cases hv : ls[i]? with
  | none => rw [hv] at hi; cases hi
  | some v =>
    rw [hv] at hi
    cases v <;> first | (cases hi; exact ⟨_, hv, (fun e => by cases e), rfl⟩) | cases hi
def cr_nl (ls : List Value) (i : Nat) : Bool := match i with
  | 0 => true
  | k + 1 => match ls[k]? with
    | some (Value.long _) => false
    | some (Value.double _) => false
    | _ => true
theorem cr_mono {la : Array Slot} {nL : Nat} {l l' : List (Nat × Value)} (h : lv_has la nL l) (hs : ∀ q ∈ l', q ∈ l) : lv_has la nL l' := ⟨h.1, h.2.1, fun q hq => h.2.2 q (hs q hq)⟩
theorem cr_la_set {ad : Nat → Nat} {ls : List Value} {i : Nat} {v : Value} (h0 : cr_nl ls i = true) : ∀ q ∈ cr_la ad (ls.set i v), q ∈ (i, cr_tr ad v) :: (cr_la ad ls).filter (fun q => !(q.1 == i) && !(q.1 + 1 == i && q.2.category == 2)) := by
  intro q hq
  obtain ⟨w, h1, h2, h3⟩ := cr_la_of hq
  by_cases e : q.1 = i
  · have hl : i < (ls.set i v).length := e ▸ (List.getElem?_eq_some_iff.mp h1).1
    rw [List.length_set] at hl
    rw [e, List.getElem?_set_self hl] at h1
    cases h1
    refine List.mem_cons.mpr (Or.inl ?_)
    obtain ⟨q1, q2⟩ := q
    simp only at e h3
    rw [e, h3]
  · rw [List.getElem?_set_ne (Ne.symm e)] at h1
    refine List.mem_cons.mpr (Or.inr (List.mem_filter.mpr ⟨?_, ?_⟩))
    · obtain ⟨q1, q2⟩ := q
      simp only at h3 h1
      rw [h3]
      exact cr_la_in h1 h2
    · simp only [Bool.and_eq_true, Bool.not_eq_true', beq_eq_false_iff_ne, ne_eq, Bool.and_eq_false_iff]
      refine ⟨e, ?_⟩
      by_cases e2 : q.1 + 1 = i
      · right
        rw [h3, cr_tr_cat]
        intro hc
        subst e2
        simp only [cr_nl, h1] at h0
        cases w <;> first | exact Bool.noConfusion h0 | (simp [Value.category] at hc)
      · exact Or.inl e2
/-- the context of a walk -/
abbrev cr_G : Type := (Program × Launch × Env × Room × State × MethodId × Array Value × List Frame × Method × Code) × ((State → Prop) × va_G × cr_g × (Nat → Nat) × Nat × Nat)
def cr_V (Γ : cr_G) (pc : Nat) (ls st : List Value) (I : cr_I) (R : cr_R) (n : Nat) : Prop := match Γ with
  | ((p, l, e, Rm, s, m, args, below, meth, c), (Q, D, g, ad, base, n0)) =>
    ∀ (H : Heap) (locs : List Loc) (la : Array Slot), va_P D cr_cl (cr_wd ad g I R n) H → (n < 247 → H.size = base + n) → va_S (fun q => base ≤ q) s.heap H locs → lv_has la c.maxLocals (cr_la ad ls) → W p l e Rm s m args below meth c H locs (n - n0) (cr_sl n - cr_sl n0) Q (F0 m pc la (st.map (cr_tr ad)))
/-- what a method ends with -/
abbrev cr_K : Type := Option Value → cr_I → cr_R → Prop
def cr_PQ (D : va_G) (g : cr_g) (ad : Nat → Nat) (base : Nat) (K : cr_K) (nE : Nat) : Array Value → State → Outcome → State → Prop := fun _ st oc t =>
  (∃ (v : Option Value) (I : cr_I) (R : cr_R), oc = .returned (v.map (cr_tr ad)) ∧ K v I R ∧ va_P D cr_cl (cr_wd ad g I R nE) t.heap ∧ (nE < 247 → t.heap.size = base + nE)) ∧ va_F (fun q => base ≤ q) st t

def cr_fA (comp : ClassId) (x : Class) : Bool := match x.kind with | .array component _ => component == comp | _ => false
def cr_AOA (U : State) : Prop := (Cond.arrayOver (.array .int)).before #[] U = true
theorem cr_AOA.use {A : Array Value} {U : State} (h : cr_AOA U) : (Cond.arrayOver (.array .int)).before A U = true := h
theorem cr_AOA.moved {u U : State} (hvm : u.vm.Alike U.vm) (h : cr_AOA u) : cr_AOA U := by
  obtain ⟨comp, c, k, h1, h2, h3, h4, h5⟩ := arrayOverA_spec h
  obtain ⟨k', hk', he⟩ := hvm.2.2 _ _ h3
  have hb : ∀ vm : Vm, vm.bare.classes.findIdx? (cr_fA comp) = vm.classes.findIdx? (cr_fA comp) := fun vm => by
    simp only [Vm.bare, Array.findIdx?_map]
    rfl
  have h2' : u.vm.classes.findIdx? (cr_fA comp) = some c := h2
  have hi : U.vm.classes.findIdx? (cr_fA comp) = some c := by
    rw [← hb]
    first | rw [hvm.bare_eq] | rw [← hvm.bare_eq]
    rw [hb]
    exact h2'
  have hkind : k'.kind = .array comp (.array .int) := by rw [he]; exact h4
  have f1 : U.vm.findClass (FieldType.array .int).toString = some comp := by rw [hvm.findClass]; exact h1
  have f2 : U.vm.findClass ("[" ++ (FieldType.array .int).toString) = some c := by rw [hvm.findClass]; exact h5
  unfold cr_AOA Cond.before Cond.holds
  simp only [Cond.value]
  rw [f1, Option.bind_some]
  refine (congrArg (fun o : Option Nat => (o.bind (fun c => (U.vm.classes[c]?).map fun (k : Class) => match k.kind with | .array _ ty => decide (ty = FieldType.array .int) && decide (U.vm.findClass ("[" ++ (FieldType.array .int).toString) = some c) | _ => false) == some true)) hi).trans ?_
  simp [hk', hkind, f2]
/-- the class's static tables and texts: blocks 1000 .. are outside of the world, and nobody writes them -/
def cr_txL : List Nat := [4, 4, 4, 4, 3, 7, 7, 5, 5, 3, 5, 5, 3]
def cr_txB : List (List Int32) := [[107, 101, 101, 112], [115, 108, 111, 119], [102, 97, 115, 116], [119, 104, 101, 110], [103, 97, 112], [99, 108, 111, 115, 105, 110, 103], [111, 112, 101, 110, 105, 110, 103], [115, 112, 101, 101, 100], [104, 101, 97, 114, 100], [111, 108, 100], [97, 98, 111, 118, 101], [98, 101, 108, 111, 119], [97, 110, 100]]
def cr_tabT : List (List Int32) := [[1, 1, 2, 6, 24, 120, 720], [1, 0, 0, 0, 0], [99, 40, 4, 9, 9]]
def cr_tab (i j : Nat) : Int32 := (cr_tabT.getD i []).getD j 0
def cr_ST (ad : Nat → Nat) (base : Nat) (U : State) (H : Heap) : Prop :=
  (va_Z "CartRows" "FACTORIALS" "[I" (.ref (ad 1000)) (fun q => base ≤ q) U H ∧ va_Z "CartRows" "LEAST_SETTING" "[I" (.ref (ad 1001)) (fun q => base ≤ q) U H ∧ va_Z "CartRows" "MOST_SETTING" "[I" (.ref (ad 1002)) (fun q => base ≤ q) U H ∧ (va_Z "jdk/internal/util/Preconditions" "SIOOBE_FORMATTER" "Ljava/util/function/BiFunction;" .null (fun q => base ≤ q) U H ∨ va_Z "jdk/internal/util/Preconditions" "SIOOBE_FORMATTER" "Ljava/util/function/BiFunction;" (.ref (ad 1200)) (fun q => base ≤ q) U H)) ∧
  (va_T .int (ad 1000) 7 (fun j => .int (cr_tab 0 j)) (fun q => base ≤ q) U H ∧ va_T .int (ad 1001) 5 (fun j => .int (cr_tab 1 j)) (fun q => base ≤ q) U H ∧ va_T .int (ad 1002) 5 (fun j => .int (cr_tab 2 j)) (fun q => base ≤ q) U H) ∧
  va_Z "java/lang/String" "COMPACT_STRINGS" "Z" (.int 1) (fun q => base ≤ q) U H ∧
  vk_S 13 cr_txL cr_txB (fun i => ad (1003 + i)) (fun i => ad (1100 + i)) (fun q => base ≤ q) U H ∧
  (vk_R RX7 67 "keep" (ad 1003) U ∧ vk_R RX7 72 "slow" (ad 1004) U ∧ vk_R RX7 74 "fast" (ad 1005) U ∧ vk_R RX7 55 "when" (ad 1006) U ∧ vk_R RX7 99 "gap" (ad 1007) U ∧ vk_R RX7 101 "closing" (ad 1008) U ∧ vk_R RX7 103 "opening" (ad 1009) U ∧ vk_R RX7 105 "speed" (ad 1010) U ∧ vk_R RX7 107 "heard" (ad 1011) U ∧ vk_R RX7 109 "old" (ad 1012) U ∧ vk_R RX7 90 "above" (ad 1013) U ∧ vk_R RX7 92 "below" (ad 1014) U ∧ vk_R RX7 65 "and" (ad 1015) U) ∧
  (va_Nw (.methodLinkNest RX8 9 yX7_init "CartRows") U ∧ va_Nw (.methodLinkNest RX7 21 yX6_init "CartRows") U ∧ va_Nw (.methodLinkNest RX8 18 yX3_init "CartRows") U ∧ va_Nw (.methodLinkNest RX3 11 yX2_init "CartRows") U ∧ va_Nw (.methodLinkNest RX2 24 yX6_init "CartRows") U ∧ va_Nw (.methodLinkNest RX8 25 yX4_init "CartRows") U ∧ va_Nw (.methodLinkNest RX8 32 yX1_init "CartRows") U ∧ va_Nw (.methodLinkNest RX8 39 yX5_init "CartRows") U ∧ va_Nw (.methodLinkNest RX8 46 yX0_init "CartRows") U ∧ va_Nw (.fieldLinkNest "CartRows$Shares" 20 "CartRows" "FACTORIALS" "[I" "CartRows") U) ∧
  (cr_AOA U ∧ va_AO "CartRows$Make" U)
