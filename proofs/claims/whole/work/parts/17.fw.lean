/-! clocks: the lags as whole numbers, narrowed through every clock in turn -/
abbrev cr_M : Type := Nat → Nat → Int
def fw_1 (v i j : Nat) (d : cr_M) : cr_M := cr_up d i j (min (d i j) (d i v + d v j))
def fw_R (v i : Nat) : Nat → cr_M → cr_M
  | 0, d => d
  | m + 1, d => fw_1 v i m (fw_R v i m d)
def fw_P (v : Nat) : Nat → cr_M → cr_M
  | 0, d => d
  | m + 1, d => fw_R v m 7 (fw_P v m d)
def fw_A : Nat → cr_M → cr_M
  | 0, d => d
  | m + 1, d => fw_P m 7 (fw_A m d)
/-- it only falls -/
theorem fw_1_le {v i j x y : Nat} {d : cr_M} : fw_1 v i j d x y ≤ d x y := by
  unfold fw_1 cr_up
  split
  · rename_i h
    rw [h.1, h.2]
    omega
  · exact Int.le_refl _
theorem fw_R_le {v i x y : Nat} {d : cr_M} : ∀ m, fw_R v i m d x y ≤ d x y
  | 0 => Int.le_refl _
  | m + 1 => Int.le_trans fw_1_le (fw_R_le m)
theorem fw_P_le {v x y : Nat} {d : cr_M} : ∀ m, fw_P v m d x y ≤ d x y
  | 0 => Int.le_refl _
  | m + 1 => Int.le_trans (fw_R_le 7) (fw_P_le m)
theorem fw_A_le {x y : Nat} {d : cr_M} : ∀ m, fw_A m d x y ≤ d x y
  | 0 => Int.le_refl _
  | m + 1 => Int.le_trans (fw_P_le 7) (fw_A_le m)
theorem fw_A_mono {x y : Nat} {d : cr_M} : ∀ {k m : Nat}, k ≤ m → fw_A m d x y ≤ fw_A k d x y := by
  intro k m h
  induction m with
  | zero => rw [show k = 0 by omega]; exact Int.le_refl _
  | succ m ih =>
    rcases Nat.lt_or_ge k (m + 1) with q | q
    · exact Int.le_trans (fw_P_le 7) (ih (by omega))
    · rw [show k = m + 1 by omega]; exact Int.le_refl _
/-- what holds of all that obeys stays -/
def fw_S (x : Nat → Int) (d : cr_M) : Prop := ∀ i j, i < 7 → j < 7 → x i - x j ≤ d i j
theorem fw_1_S {x : Nat → Int} {v i j : Nat} {d : cr_M} (hv : v < 7) (hi : i < 7) (hj : j < 7) (h : fw_S x d) : fw_S x (fw_1 v i j d) := by
  intro a b ha hb
  unfold fw_1 cr_up
  split
  · rename_i e
    rw [e.1, e.2]
    have h1 := h i j hi hj
    have h2 := h i v hi hv
    have h3 := h v j hv hj
    omega
  · exact h a b ha hb
theorem fw_R_S {x : Nat → Int} {v i : Nat} {d : cr_M} (hv : v < 7) (hi : i < 7) (h : fw_S x d) : ∀ m, m ≤ 7 → fw_S x (fw_R v i m d)
  | 0, _ => h
  | m + 1, hm => fw_1_S hv hi (by omega) (fw_R_S hv hi h m (by omega))
theorem fw_P_S {x : Nat → Int} {v : Nat} {d : cr_M} (hv : v < 7) (h : fw_S x d) : ∀ m, m ≤ 7 → fw_S x (fw_P v m d)
  | 0, _ => h
  | m + 1, hm => fw_R_S hv (by omega) (fw_P_S hv h m (by omega)) 7 (Nat.le_refl _)
theorem fw_A_S {x : Nat → Int} {d : cr_M} (h : fw_S x d) : ∀ m, m ≤ 7 → fw_S x (fw_A m d)
  | 0, _ => h
  | m + 1, hm => fw_P_S (by omega) (fw_A_S h m (by omega)) 7 (Nat.le_refl _)
/-- one clock's turn, where that clock doesn't come before itself: each place as it was, or through that clock -/
theorem fw_R_at {v i : Nat} {d : cr_M} (hvv : 0 ≤ d v v) : ∀ m, (∀ y, fw_R v i m d i y = if y < m then min (d i y) (d i v + (if v = i then d i y else d v y)) else d i y) ∧ (∀ x y, x ≠ i → fw_R v i m d x y = d x y)
  | 0 => ⟨fun y => by simp [fw_R], fun x y _ => rfl⟩
  | m + 1 => by
    obtain ⟨h1, h2⟩ := fw_R_at hvv m
    have eiv : fw_R v i m d i v = d i v := by
      rw [h1 v]
      split
      · by_cases e : v = i
        · subst e; simp; omega
        · rw [if_neg e]; omega
      · rfl
    refine ⟨fun y => ?_, fun x y hx => ?_⟩
    · rw [fw_R]
      unfold fw_1 cr_up
      by_cases e : y = m
      · subst e
        rw [if_pos ⟨rfl, rfl⟩, if_pos (Nat.lt_succ_self _), eiv, h1 y, if_neg (Nat.lt_irrefl _)]
        by_cases ev : v = i
        · subst ev
          rw [if_pos rfl, h1 y, if_neg (Nat.lt_irrefl _)]
        · rw [if_neg ev, h2 v y ev]
      · rw [if_neg (fun q => e q.2), h1 y]
        by_cases hy : y < m
        · rw [if_pos hy, if_pos (show y < m + 1 by omega)]
        · rw [if_neg hy, if_neg (show ¬ y < m + 1 by omega)]
    · rw [fw_R]
      unfold fw_1 cr_up
      rw [if_neg (fun q => hx q.1)]
      exact h2 x y hx
theorem fw_P_at {v : Nat} {d : cr_M} (hv : v < 7) (hvv : 0 ≤ d v v) : ∀ m, ∀ x y, y < 7 → fw_P v m d x y = if x < m then min (d x y) (d x v + d v y) else d x y
  | 0, x, y, _ => by simp [fw_P]
  | m + 1, x, y, hy => by
    have ih := fw_P_at hv hvv m
    have hcv : ∀ z, z < 7 → fw_P v m d v z = d v z := fun z hz => by
      rw [ih v z hz]
      split <;> omega
    have hcm : ∀ z, z < 7 → fw_P v m d m z = d m z := fun z hz => by
      rw [ih m z hz, if_neg (Nat.lt_irrefl _)]
    rw [fw_P]
    obtain ⟨h1, h2⟩ := fw_R_at (i := m) (d := fw_P v m d) (by rw [hcv v hv]; exact hvv) 7
    by_cases e : x = m
    · subst e
      rw [h1 y, if_pos hy, if_pos (Nat.lt_succ_self _), hcm y hy, hcm v hv]
      by_cases ev : v = x
      · subst ev
        rw [if_pos rfl]
      · rw [if_neg ev, hcv y hy]
    · rw [h2 x y e, ih x y hy]
      by_cases hx : x < m
      · rw [if_pos hx, if_pos (by omega)]
      · rw [if_neg hx, if_neg (by omega)]
/-- through the first k clocks no way is shorter -/
theorem fw_tri {d : cr_M} : ∀ k, k ≤ 7 → (∀ i, i < 7 → 0 ≤ fw_A k d i i) → ∀ v, v < k → ∀ i j, i < 7 → j < 7 → fw_A k d i j ≤ fw_A k d i v + fw_A k d v j
  | 0, _, _, v, hv, _, _, _, _ => absurd hv (Nat.not_lt_zero _)
  | k + 1, hk, hd, v, hv, i, j, hi, hj => by
    have hd' : ∀ i, i < 7 → 0 ≤ fw_A k d i i := fun i hi => Int.le_trans (hd i hi) (fw_A_mono (Nat.le_succ k))
    have ih := fw_tri k (by omega) hd'
    have at' : ∀ x y, x < 7 → y < 7 → fw_A (k + 1) d x y = min (fw_A k d x y) (fw_A k d x k + fw_A k d k y) := fun x y hx hy => by
      rw [fw_A, fw_P_at (by omega) (hd' k (by omega)) 7 x y hy, if_pos hx]
    have hkk := hd' k (by omega)
    rw [at' i j hi hj, at' i v hi (by omega), at' v j (by omega) hj]
    by_cases e : v = k
    · subst e
      omega
    · have t1 := ih v (by omega) i j hi hj
      have t2 := ih v (by omega) k j (by omega) hj
      have t3 := ih v (by omega) i k hi (by omega)
      have t4 := ih v (by omega) k k (by omega) (by omega)
      omega
/-- what is told of the clocks: how far each may lag, and which lags by how much behind which -/
def fw_fe (off : Nat → Int) (A : Nat) (a b : Nat → Nat) (w : Nat → Int) (x : Nat → Int) : Prop := (∀ c, c < 6 → -(off c) ≤ x c ∧ x c ≤ off c) ∧ ∀ k, k < A → x (a k) + w k ≤ x (b k)
def fw_D0 (off : Nat → Int) : cr_M := fun i j => if i = j then 0 else off i + off j
def fw_D1 (off : Nat → Int) (a b : Nat → Nat) (w : Nat → Int) : Nat → cr_M
  | 0 => fw_D0 off
  | k + 1 => cr_up (fw_D1 off a b w k) (a k) (b k) (min (fw_D1 off a b w k (a k) (b k)) (-(w k)))
theorem fw_D1_le {off : Nat → Int} {a b : Nat → Nat} {w : Nat → Int} {x y : Nat} : ∀ {k m : Nat}, k ≤ m → fw_D1 off a b w m x y ≤ fw_D1 off a b w k x y := by
  intro k m h
  induction m with
  | zero => rw [show k = 0 by omega]; exact Int.le_refl _
  | succ m ih =>
    rcases Nat.lt_or_ge k (m + 1) with q | q
    · refine Int.le_trans ?_ (ih (by omega))
      rw [fw_D1]
      unfold cr_up
      split
      · rename_i e
        rw [e.1, e.2]
        omega
      · exact Int.le_refl _
    · rw [show k = m + 1 by omega]; exact Int.le_refl _
/-- the lags that are laid together -/
def fw_F (off : Nat → Int) (A : Nat) (a b : Nat → Nat) (w : Nat → Int) : cr_M := fw_A 7 (fw_D1 off a b w A)
theorem fw_sound {off : Nat → Int} {A : Nat} {a b : Nat → Nat} {w : Nat → Int} {x : Nat → Int} (h6 : off 6 = 0) (ha : ∀ k, k < A → a k < 6 ∧ b k < 6) (hx : fw_fe off A a b w x) : fw_S (fun i => if i < 6 then x i else 0) (fw_F off A a b w) := by
  refine fw_A_S ?_ 7 (Nat.le_refl _)
  have h0 : fw_S (fun i => if i < 6 then x i else 0) (fw_D0 off) := by
    intro i j hi hj
    unfold fw_D0
    simp only
    by_cases e : i = j
    · subst e; simp
    · rw [if_neg e]
      by_cases i6 : i < 6 <;> by_cases j6 : j < 6
      · rw [if_pos i6, if_pos j6]
        have := hx.1 i i6
        have := hx.1 j j6
        omega
      · rw [if_pos i6, if_neg j6, show j = 6 by omega, h6]
        have := hx.1 i i6
        omega
      · rw [if_neg i6, if_pos j6, show i = 6 by omega, h6]
        have := hx.1 j j6
        omega
      · omega
  have key : ∀ m, m ≤ A → fw_S (fun i => if i < 6 then x i else 0) (fw_D1 off a b w m) := by
    intro m
    induction m with
    | zero => intro _; exact h0
    | succ m ih =>
      intro hm i j hi hj
      have ih := ih (by omega)
      have hab := ha m (by omega)
      rw [fw_D1]
      unfold cr_up
      split
      · rename_i e
        rw [e.1, e.2]
        have h1 := ih (a m) (b m) (by omega) (by omega)
        have h2 := hx.2 m (by omega)
        simp only at h1 ⊢
        rw [if_pos hab.1, if_pos hab.2] at h1 ⊢
        omega
      · exact ih i j hi hj
  exact key A (Nat.le_refl _)
theorem fw_bad {off : Nat → Int} {A : Nat} {a b : Nat → Nat} {w : Nat → Int} {x : Nat → Int} (h6 : off 6 = 0) (ha : ∀ k, k < A → a k < 6 ∧ b k < 6) (hx : fw_fe off A a b w x) : ∀ i, i < 7 → 0 ≤ fw_F off A a b w i i := by
  intro i hi
  have := fw_sound h6 ha hx i i hi hi
  omega
/-- where none comes before itself: the least and the greatest that obey -/
theorem fw_good {off : Nat → Int} {A : Nat} {a b : Nat → Nat} {w : Nat → Int} (h6 : off 6 = 0) (ho : ∀ c, c < 6 → 0 ≤ off c) (ha : ∀ k, k < A → a k < 6 ∧ b k < 6) (hd : ∀ i, i < 7 → 0 ≤ fw_F off A a b w i i) :
    (fw_fe off A a b w (fun c => -(fw_F off A a b w 6 c)) ∧ ∀ x, fw_fe off A a b w x → ∀ c, c < 6 → -(fw_F off A a b w 6 c) ≤ x c) ∧ (fw_fe off A a b w (fun c => fw_F off A a b w c 6) ∧ ∀ x, fw_fe off A a b w x → ∀ c, c < 6 → x c ≤ fw_F off A a b w c 6) := by
  have tri := fw_tri (d := fw_D1 off a b w A) 7 (Nat.le_refl _) hd
  have tri : ∀ v, v < 7 → ∀ i j, i < 7 → j < 7 → fw_F off A a b w i j ≤ fw_F off A a b w i v + fw_F off A a b w v j := tri
  have hle : ∀ i j, fw_F off A a b w i j ≤ fw_D0 off i j := fun i j => Int.le_trans (fw_A_le 7) (fw_D1_le (Nat.zero_le _))
  have hab : ∀ k, k < A → fw_F off A a b w (a k) (b k) ≤ -(w k) := fun k hk => by
    refine Int.le_trans (fw_A_le 7) (Int.le_trans (fw_D1_le (show k + 1 ≤ A by omega)) ?_)
    rw [fw_D1]
    unfold cr_up
    rw [if_pos ⟨rfl, rfl⟩]
    omega
  have c6 : ∀ c, c < 6 → fw_F off A a b w c 6 ≤ off c := fun c hc => by
    have := hle c 6
    unfold fw_D0 at this
    rw [if_neg (by omega), h6] at this
    omega
  have c6' : ∀ c, c < 6 → fw_F off A a b w 6 c ≤ off c := fun c hc => by
    have := hle 6 c
    unfold fw_D0 at this
    rw [if_neg (by omega), h6] at this
    omega
  have cc : ∀ c, c < 6 → 0 ≤ fw_F off A a b w c 6 + fw_F off A a b w 6 c := fun c hc => by
    have := tri 6 (by omega) c c (by omega) (by omega)
    have := hd c (by omega)
    omega
  refine ⟨⟨⟨fun c hc => ?_, fun k hk => ?_⟩, fun x hx c hc => ?_⟩, ⟨fun c hc => ?_, fun k hk => ?_⟩, fun x hx c hc => ?_⟩
  · have := c6 c hc
    have := c6' c hc
    have := cc c hc
    have := ho c hc
    simp only
    omega
  · have h1 := tri (a k) (by have := ha k hk; omega) 6 (b k) (by omega) (by have := ha k hk; omega)
    have h2 := hab k hk
    simp only
    omega
  · have := fw_sound h6 ha hx 6 c (by omega) (by omega)
    simp only at this
    rw [if_neg (by omega), if_pos hc] at this
    omega
  · have := c6 c hc
    have := c6' c hc
    have := cc c hc
    have := ho c hc
    simp only
    omega
  · have h1 := tri (b k) (by have := ha k hk; omega) (a k) 6 (by have := ha k hk; omega) (by omega)
    have h2 := hab k hk
    simp only
    omega
  · have := fw_sound h6 ha hx c 6 (by omega) (by omega)
    simp only at this
    rw [if_pos hc, if_neg (by omega)] at this
    omega
/-- how low the lags can fall -/
def fw_B (L U : Int) (d : cr_M) : Prop := ∀ x y, x < 7 → y < 7 → -L ≤ d x y ∧ d x y ≤ U
def fw_I (b U : Int) (v i j : Nat) (d : cr_M) : Prop := ∀ x y, x < 7 → y < 7 → d x y ≤ U ∧ -(6 * b) ≤ d x y ∧ ((x = v ∨ y = v) → -(3 * b) ≤ d x y) ∧ ((x = v ∧ y = v) → -(2 * b) ≤ d x y) ∧ ((i < x ∨ (i = x ∧ j ≤ y)) → -b ≤ d x y)
theorem fw_I_0 {b U : Int} {v : Nat} {d : cr_M} (hb : 0 ≤ b) (h : fw_B b U d) : fw_I b U v 0 0 d := by
  intro x y hx hy
  have := h x y hx hy
  refine ⟨this.2, by omega, fun _ => by omega, fun _ => by omega, fun _ => this.1⟩
theorem fw_I_1 {b U : Int} {v i j : Nat} {d : cr_M} (hv : v < 7) (hi : i < 7) (hj : j < 7) (hb : 0 ≤ b) (h : fw_I b U v i j d) : fw_I b U v i (j + 1) (fw_1 v i j d) := by
  intro x y hx hy
  have hxy := h x y hx hy
  have hij := h i j hi hj
  have hiv := h i v hi hv
  have hvj := h v j hv hj
  have hvv := h v v hv hv
  unfold fw_1 cr_up
  by_cases e : x = i ∧ y = j
  · rw [if_pos e]
    obtain ⟨rfl, rfl⟩ := e
    have u3 := hiv.2.2.1 (Or.inr rfl)
    have u4 := hvj.2.2.1 (Or.inl rfl)
    have u5 := hvv.2.2.2.1 ⟨rfl, rfl⟩
    have u6 := hij.2.2.2.2 (Or.inr ⟨rfl, Nat.le_refl _⟩)
    refine ⟨by omega, by omega, fun q => ?_, fun q => ?_, fun q => by omega⟩
    · rcases q with q | q
      · subst q
        omega
      · subst q
        omega
    · obtain ⟨q1, q2⟩ := q
      subst q1
      subst q2
      omega
  · rw [if_neg e]
    refine ⟨hxy.1, hxy.2.1, hxy.2.2.1, hxy.2.2.2.1, fun q => hxy.2.2.2.2 (by omega)⟩
theorem fw_I_n {b U : Int} {v i : Nat} {d : cr_M} (h : fw_I b U v i 7 d) : fw_I b U v (i + 1) 0 d := by
  intro x y hx hy
  have := h x y hx hy
  exact ⟨this.1, this.2.1, this.2.2.1, this.2.2.2.1, fun q => this.2.2.2.2 (by omega)⟩
theorem fw_I_R {b U : Int} {v i : Nat} {d : cr_M} (hv : v < 7) (hi : i < 7) (hb : 0 ≤ b) (h : fw_I b U v i 0 d) : ∀ m, m ≤ 7 → fw_I b U v i m (fw_R v i m d)
  | 0, _ => h
  | m + 1, hm => fw_I_1 hv hi (by omega) hb (fw_I_R hv hi hb h m (by omega))
theorem fw_I_P {b U : Int} {v : Nat} {d : cr_M} (hv : v < 7) (hb : 0 ≤ b) (h : fw_B b U d) : ∀ m, m ≤ 7 → fw_I b U v m 0 (fw_P v m d)
  | 0, _ => fw_I_0 hb h
  | m + 1, hm => fw_I_n (fw_I_R hv (by omega) hb (fw_I_P hv hb h m (by omega)) 7 (Nat.le_refl _))
def fw_L : Nat → Int
  | 0 => 1200
  | v + 1 => 6 * fw_L v
theorem fw_B_A {U : Int} {d : cr_M} (h : fw_B 1200 U d) : ∀ m, m ≤ 7 → fw_B (fw_L m) U (fw_A m d)
  | 0, _ => h
  | m + 1, hm => fun x y hx hy => by
    have ih := fw_B_A h m (by omega)
    have hL : 0 ≤ fw_L m := by
      have : ∀ m, 0 ≤ fw_L m := fun m => by
        induction m with
        | zero => decide
        | succ m ih => rw [fw_L]; omega
      exact this m
    have := fw_I_P (v := m) (by omega) hL ih 7 (Nat.le_refl _) x y hx hy
    rw [fw_L, fw_A]
    exact ⟨this.2.1, this.1⟩
