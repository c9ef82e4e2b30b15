/-! hours in their order: the last journey's change fastest -/
def cr_tnS (fs ls : Nat → Int32) : Nat → (Nat → Int32) → (Nat → Int32) × Bool
  | 0, h => (h, false)
  | m + 1, h => if (ls m).toInt ≤ (h m).toInt then cr_tnS fs ls m (fun i => if i = m then fs m else h i) else ((fun i => if i = m then h m + 1 else h i), true)
def cr_sz (fs ls : Nat → Int32) (i : Nat) : Nat := ((ls i).toInt - (fs i).toInt).toNat + 1
def cr_dg (fs h : Nat → Int32) (i : Nat) : Nat := ((h i).toInt - (fs i).toInt).toNat
def cr_rk (fs ls h : Nat → Int32) : Nat → Nat
  | 0 => 0
  | m + 1 => cr_rk fs ls h m * cr_sz fs ls m + cr_dg fs h m
def cr_chN (fs ls : Nat → Int32) : Nat → Nat
  | 0 => 1
  | m + 1 => cr_chN fs ls m * cr_sz fs ls m
/-- first and last are as told -/
def cr_hw (n : Nat) (fs ls : Nat → Int32) : Prop := ∀ j, j < n → 0 ≤ (fs j).toInt ∧ (fs j).toInt ≤ (ls j).toInt ∧ (ls j).toInt ≤ 23 ∧ (ls j).toInt ≤ (fs j).toInt + 5
def cr_hr (n : Nat) (fs ls h : Nat → Int32) : Prop := ∀ j, j < n → (fs j).toInt ≤ (h j).toInt ∧ (h j).toInt ≤ (ls j).toInt
theorem cr_rk_c {fs ls h h' : Nat → Int32} : ∀ m, (∀ i, i < m → h i = h' i) → cr_rk fs ls h m = cr_rk fs ls h' m
  | 0, _ => rfl
  | m + 1, e => by
    rw [cr_rk, cr_rk, cr_rk_c m (fun i hi => e i (by omega))]
    unfold cr_dg
    rw [e m (by omega)]
theorem cr_tn_ok {fs ls : Nat → Int32} : ∀ (m : Nat) (h : Nat → Int32), cr_hw m fs ls → cr_hr m fs ls h → cr_hr m fs ls (cr_tnS fs ls m h).1 ∧ (∀ i, m ≤ i → (cr_tnS fs ls m h).1 i = h i) ∧ ((cr_tnS fs ls m h).2 = true → cr_rk fs ls (cr_tnS fs ls m h).1 m = cr_rk fs ls h m + 1) ∧ ((cr_tnS fs ls m h).2 = false → cr_rk fs ls h m + 1 = cr_chN fs ls m)
  | 0, h, _, _ => ⟨fun j hj => absurd hj (Nat.not_lt_zero _), fun i _ => rfl, fun q => Bool.noConfusion q, fun _ => rfl⟩
  | m + 1, h, hw, hr => by
    have hwm := hw m (by omega)
    have hrm := hr m (by omega)
    rw [cr_tnS]
    by_cases c : (ls m).toInt ≤ (h m).toInt
    · rw [if_pos c]
      have ih := cr_tn_ok m (fun i => if i = m then fs m else h i) (fun j hj => hw j (by omega)) (fun j hj => by
        simp only
        rw [if_neg (by omega)]
        exact hr j (by omega))
      obtain ⟨i1, i2, i3, i4⟩ := ih
      have em : (cr_tnS fs ls m (fun i => if i = m then fs m else h i)).1 m = fs m := by
        rw [i2 m (Nat.le_refl _)]
        exact if_pos rfl
      have er : cr_rk fs ls (fun i => if i = m then fs m else h i) m = cr_rk fs ls h m := cr_rk_c m (fun i hi => if_neg (by omega))
      have ed : cr_dg fs h m + 1 = cr_sz fs ls m := by
        unfold cr_dg cr_sz
        omega
      rw [er] at i3 i4
      refine ⟨fun j hj => ?_, fun i hi => ?_, fun q => ?_, fun q => ?_⟩
      · by_cases e : j = m
        · rw [e, em]; omega
        · exact i1 j (by omega)
      · rw [i2 i (by omega)]
        exact if_neg (by omega)
      · rw [cr_rk, cr_rk, i3 q, Nat.succ_mul]
        have : cr_dg fs (cr_tnS fs ls m (fun i => if i = m then fs m else h i)).1 m = 0 := by
          unfold cr_dg
          rw [em]
          omega
        omega
      · rw [cr_rk, cr_chN, ← i4 q, Nat.succ_mul]
        omega
    · rw [if_neg c]
      have e1 : (h m + 1).toInt = (h m).toInt + 1 := by
        have : (1 : Int32).toInt = 1 := rfl
        rw [cr_add (by omega)]
        rfl
      refine ⟨fun j hj => ?_, fun i hi => if_neg (by omega), fun _ => ?_, fun q => Bool.noConfusion q⟩
      · simp only
        by_cases e : j = m
        · rw [if_pos e, e, e1]; omega
        · rw [if_neg e]; exact hr j hj
      · rw [cr_rk, cr_rk, cr_rk_c (h := fun i => if i = m then h m + 1 else h i) (h' := h) m (fun i hi => if_neg (by omega))]
        have : cr_dg fs (fun i => if i = m then h m + 1 else h i) m = cr_dg fs h m + 1 := by
          unfold cr_dg
          simp only [if_true, e1]
          omega
        show _ + cr_dg fs (fun i => if i = m then h m + 1 else h i) m = _
        omega
def cr_sq (fs ls : Nat → Int32) (n : Nat) (h0 : Nat → Int32) : Nat → (Nat → Int32)
  | 0 => h0
  | k + 1 => (cr_tnS fs ls n (cr_sq fs ls n h0 k)).1
theorem cr_sq_ok {fs ls h0 : Nat → Int32} {n : Nat} (hw : cr_hw n fs ls) (h00 : ∀ i, i < n → h0 i = fs i) : ∀ k, k < cr_chN fs ls n → cr_hr n fs ls (cr_sq fs ls n h0 k) ∧ cr_rk fs ls (cr_sq fs ls n h0 k) n = k
  | 0, _ => by
    refine ⟨fun j hj => ?_, ?_⟩
    · rw [cr_sq, h00 j hj]
      have := hw j hj
      omega
    · have : ∀ m, m ≤ n → cr_rk fs ls h0 m = 0 := by
        intro m
        induction m with
        | zero => intro _; rfl
        | succ m ih =>
          intro hm
          rw [cr_rk, ih (by omega)]
          unfold cr_dg
          rw [h00 m (by omega)]
          omega
      exact this n (Nat.le_refl _)
  | k + 1, hk => by
    obtain ⟨i1, i2⟩ := cr_sq_ok hw h00 k (by omega)
    obtain ⟨t1, t2, t3, t4⟩ := cr_tn_ok n (cr_sq fs ls n h0 k) hw i1
    rw [cr_sq]
    refine ⟨t1, ?_⟩
    cases hb : (cr_tnS fs ls n (cr_sq fs ls n h0 k)).2 with
    | true => rw [t3 hb, i2]
    | false =>
      have := t4 hb
      omega
theorem cr_sq_b {fs ls h0 : Nat → Int32} {n : Nat} (hw : cr_hw n fs ls) (h00 : ∀ i, i < n → h0 i = fs i) {k : Nat} (hk : k < cr_chN fs ls n) : ((cr_tnS fs ls n (cr_sq fs ls n h0 k)).2 = true ↔ k + 1 < cr_chN fs ls n) := by
  obtain ⟨i1, i2⟩ := cr_sq_ok hw h00 k hk
  obtain ⟨t1, t2, t3, t4⟩ := cr_tn_ok n (cr_sq fs ls n h0 k) hw i1
  constructor
  · intro hb
    have e := t3 hb
    have hlt : ∀ m, m ≤ n → cr_rk fs ls (cr_tnS fs ls n (cr_sq fs ls n h0 k)).1 m < cr_chN fs ls m := by
      intro m
      induction m with
      | zero => intro _; exact Nat.one_pos
      | succ m ih =>
        intro hm
        have ih := ih (by omega)
        have h1 := t1 m (by omega)
        have h2 : cr_dg fs (cr_tnS fs ls n (cr_sq fs ls n h0 k)).1 m < cr_sz fs ls m := by
          unfold cr_dg cr_sz
          omega
        rw [cr_rk, cr_chN]
        calc cr_rk fs ls (cr_tnS fs ls n (cr_sq fs ls n h0 k)).1 m * cr_sz fs ls m + cr_dg fs (cr_tnS fs ls n (cr_sq fs ls n h0 k)).1 m
            < cr_rk fs ls (cr_tnS fs ls n (cr_sq fs ls n h0 k)).1 m * cr_sz fs ls m + cr_sz fs ls m := by omega
          _ = (cr_rk fs ls (cr_tnS fs ls n (cr_sq fs ls n h0 k)).1 m + 1) * cr_sz fs ls m := by rw [Nat.succ_mul]
          _ ≤ cr_chN fs ls m * cr_sz fs ls m := Nat.mul_le_mul_right _ ih
    have := hlt n (Nat.le_refl _)
    omega
  · intro hlt
    cases hb : (cr_tnS fs ls n (cr_sq fs ls n h0 k)).2 with
    | true => rfl
    | false =>
      have := t4 hb
      omega
theorem cr_chN_le {fs ls : Nat → Int32} {n : Nat} (hn : n ≤ 5) (hw : cr_hw n fs ls) : 0 < cr_chN fs ls n ∧ cr_chN fs ls n ≤ 7776 := by
  have : ∀ m, m ≤ n → 0 < cr_chN fs ls m ∧ cr_chN fs ls m ≤ 6 ^ m := by
    intro m
    induction m with
    | zero => intro _; exact ⟨Nat.one_pos, Nat.le_refl _⟩
    | succ m ih =>
      intro hm
      obtain ⟨a, b⟩ := ih (by omega)
      have h1 := hw m (by omega)
      have h2 : 0 < cr_sz fs ls m ∧ cr_sz fs ls m ≤ 6 := by
        unfold cr_sz
        omega
      rw [cr_chN, Nat.pow_succ]
      exact ⟨Nat.mul_pos a h2.1, Nat.mul_le_mul b h2.2⟩
  have h := this n (Nat.le_refl _)
  exact ⟨h.1, Nat.le_trans h.2 (Nat.pow_le_pow_right (by omega) hn)⟩
/-- the best yet: the first of the least -/
def cr_bsS (cF : (Nat → Int32) → Int32) (sq : Nat → Nat → Int32) : Nat → Int32 × (Nat → Int32)
  | 0 => (cF (sq 0), sq 0)
  | k + 1 => if cF (sq (k + 1)) < (cr_bsS cF sq k).1 then (cF (sq (k + 1)), sq (k + 1)) else cr_bsS cF sq k
/-! only the hours of the journeys that there are count -/
theorem cr_ledS_c {fr to hr hr' mw : Nat → Int32} {j n : Nat} {q : Int32} (hj : j < n) (e : ∀ i, i < n → hr i = hr' i) : ∀ k, k ≤ n → cr_ledS fr to hr mw j q k = cr_ledS fr to hr' mw j q k
  | 0, _ => rfl
  | k + 1, hk => by rw [cr_ledS, cr_ledS, cr_ledS_c hj e k (by omega), e k (by omega), e j hj]
theorem cr_rowS_c {n : Nat} {fr to hr hr' mw : Nat → Int32} {sp : Int32} {j : Nat} (hj : j < n) (e : ∀ i, i < n → hr i = hr' i) : ∀ m, cr_rowS n fr to hr mw sp j m = cr_rowS n fr to hr' mw sp j m
  | 0 => rfl
  | m + 1 => by
    rw [cr_rowS, cr_rowS, cr_rowS_c hj e m]
    unfold cr_burnS
    rw [cr_ledS_c hj e n (Nat.le_refl _)]
theorem cr_costS_c {n : Nat} {fr to fs hr hr' mw : Nat → Int32} {sp lt : Int32} (e : ∀ i, i < n → hr i = hr' i) : ∀ j, j ≤ n → cr_costS n fr to fs hr mw sp lt j = cr_costS n fr to fs hr' mw sp lt j
  | 0, _ => rfl
  | j + 1, hj => by rw [cr_costS, cr_costS, cr_costS_c e j (by omega), cr_rowS_c (by omega) e, e j (by omega)]
theorem cr_tnS_c {fs ls h h' : Nat → Int32} {n : Nat} : ∀ m, m ≤ n → (∀ i, i < n → h i = h' i) → (cr_tnS fs ls m h).2 = (cr_tnS fs ls m h').2 ∧ ∀ i, i < n → (cr_tnS fs ls m h).1 i = (cr_tnS fs ls m h').1 i := by
  intro m
  induction m generalizing h h' with
  | zero => intro _ e; exact ⟨rfl, e⟩
  | succ m ih =>
    intro hm e
    rw [cr_tnS, cr_tnS, e m (by omega)]
    split
    · refine ih (by omega) (fun i hi => ?_)
      split
      · rfl
      · exact e i hi
    · refine ⟨rfl, fun i hi => ?_⟩
      simp only
      split
      · rfl
      · exact e i hi
theorem cr_sq_c {fs ls h h' : Nat → Int32} {n : Nat} (e : ∀ i, i < n → h i = h' i) : ∀ k i, i < n → cr_sq fs ls n h k i = cr_sq fs ls n h' k i
  | 0, i, hi => e i hi
  | k + 1, i, hi => (cr_tnS_c n (Nat.le_refl _) (cr_sq_c e k)).2 i hi
/-! no cost is far -/
theorem cr_burnS_b {n : Nat} {fr to hr mw : Nat → Int32} {sp : Int32} {j : Nat} {q : Int32} (hm : 1 ≤ (mw j).toInt ∧ (mw j).toInt ≤ 40) (hs : 0 ≤ sp.toInt ∧ sp.toInt ≤ 9) : 1 ≤ (cr_burnS n fr to hr mw sp j q).toInt ∧ (cr_burnS n fr to hr mw sp j q).toInt ≤ 40 := by
  unfold cr_burnS
  have e : (mw j - sp).toInt = (mw j).toInt - sp.toInt := cr_sub (by omega)
  have one : (1 : Int32).toInt = 1 := rfl
  split
  · split
    · rename_i c
      rw [cr_lt, e] at c
      omega
    · omega
  · exact hm
theorem cr_rowS_b {n : Nat} {fr to hr mw : Nat → Int32} {sp : Int32} {j : Nat} (hm : 1 ≤ (mw j).toInt ∧ (mw j).toInt ≤ 40) (hs : 0 ≤ sp.toInt ∧ sp.toInt ≤ 9) : ∀ m, m ≤ 100 → 0 ≤ (cr_rowS n fr to hr mw sp j m).toInt ∧ (cr_rowS n fr to hr mw sp j m).toInt ≤ 40 * m
  | 0, _ => by rw [cr_rowS]; exact ⟨by decide, by decide⟩
  | m + 1, hm100 => by
    have ih := cr_rowS_b (n := n) (fr := fr) (to := to) (hr := hr) hm hs m (by omega)
    have hb := cr_burnS_b (n := n) (fr := fr) (to := to) (hr := hr) (q := fr j + nI m) hm hs
    rw [cr_rowS, cr_add (by omega)]
    omega
theorem cr_costS_b {n : Nat} {fr to fs ls hr mw : Nat → Int32} {sp lt : Int32} {mk : Nat → Int32} (hw : cr_jw n fr to mk) (hh : cr_hw n fs ls) (hr0 : cr_hr n fs ls hr) (hm : ∀ j, j < n → 1 ≤ (mw j).toInt ∧ (mw j).toInt ≤ 40) (hs : 0 ≤ sp.toInt ∧ sp.toInt ≤ 9) (hl : 0 ≤ lt.toInt ∧ lt.toInt ≤ 9) : ∀ j, j ≤ n → 0 ≤ (cr_costS n fr to fs hr mw sp lt j).toInt ∧ (cr_costS n fr to fs hr mw sp lt j).toInt ≤ 500 * j
  | 0, _ => by rw [cr_costS]; exact ⟨by decide, by decide⟩
  | j + 1, hj => by
    have ih := cr_costS_b hw hh hr0 hm hs hl j (by omega)
    have hn := hw.1
    have hwj := (hw.2 j (by omega)).1
    have hhj := hh j (by omega)
    have hrj := hr0 j (by omega)
    have hrow := cr_rowS_b (n := n) (fr := fr) (to := to) (hr := hr) (hm j (by omega)) hs ((to j).toInt - (fr j).toInt).toNat (by omega)
    have ed : (hr j - fs j).toInt = (hr j).toInt - (fs j).toInt := cr_sub (by omega)
    have b1 : 0 ≤ lt.toInt * ((hr j).toInt - (fs j).toInt) := Int.mul_nonneg hl.1 (by omega)
    have b2 : lt.toInt * ((hr j).toInt - (fs j).toInt) ≤ 9 * 5 := Int.mul_le_mul hl.2 (by omega) (by omega) (by omega)
    have em : (lt * (hr j - fs j)).toInt = lt.toInt * ((hr j).toInt - (fs j).toInt) := by
      rw [cr_mul (by rw [ed]; omega), ed]
    have es : (lt * (hr j - fs j) + cr_rowS n fr to hr mw sp j ((to j).toInt - (fr j).toInt).toNat).toInt = (lt * (hr j - fs j)).toInt + (cr_rowS n fr to hr mw sp j ((to j).toInt - (fr j).toInt).toNat).toInt := cr_add (by rw [em]; omega)
    rw [cr_costS, cr_add (by rw [es, em]; omega), es, em]
    omega
