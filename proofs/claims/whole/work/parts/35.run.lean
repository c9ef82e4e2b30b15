/-! A RUN, apart from any memory -/
abbrev cr_par : Type := Nat × Int32 × (Nat → Int32) × (Nat → (Nat → Int32) → Int32) × (Nat → Nat) × (Nat → Int32 → Int32) × Nat × Nat × Nat × Int32
abbrev pn (p : cr_par) : Nat := p.1
abbrev ps0 (p : cr_par) : Int32 := p.2.1
abbrev ppw (p : cr_par) : Nat → Int32 := p.2.2.1
abbrev pwb (p : cr_par) : Nat → (Nat → Int32) → Int32 := p.2.2.2.1
abbrev pft (p : cr_par) : Nat → Nat := p.2.2.2.2.1
abbrev psl (p : cr_par) : Nat → Int32 → Int32 := p.2.2.2.2.2.1
abbrev pL (p : cr_par) : Nat := p.2.2.2.2.2.2.1
abbrev pfr (p : cr_par) : Nat := p.2.2.2.2.2.2.2.1
abbrev pto (p : cr_par) : Nat := p.2.2.2.2.2.2.2.2.1
abbrev pss (p : cr_par) : Int32 := p.2.2.2.2.2.2.2.2.2
abbrev cr_RS : Type := (Nat → Int32) × (Nat → Int32) × (Nat → Int32) × Int32 × (Nat → Nat → Int32)
abbrev rS (s : cr_RS) : Nat → Int32 := s.1
abbrev rG (s : cr_RS) : Nat → Int32 := s.2.1
abbrev rP (s : cr_RS) : Nat → Int32 := s.2.2.1
abbrev rX (s : cr_RS) : Int32 := s.2.2.2.1
abbrev rW (s : cr_RS) : Nat → Nat → Int32 := s.2.2.2.2
abbrev cr_strS (p : cr_par) (i t : Nat) : Prop := 0 < pL p ∧ pL p = i ∧ pfr p ≤ t ∧ t ≤ pto p
def cr_vals (gap own ahead heard old : Int32) (i : Nat) : Int32 := if i = 0 then (if gap < 99 then gap else 99) else if i = 1 then (if ahead < own then own - ahead else 0) else if i = 2 then (if own < ahead then ahead - own else 0) else if i = 3 then own else if i = 4 then heard else old
def cr_sgm (p : cr_par) (t : Nat) (s : cr_RS) : Int32 := if t = pfr p ∧ 0 < pL p ∧ pL p < pn p then rG s (pL p) / 2 else rX s
/-- the last word that was heard, of those said before m -/
def cr_last (lost : Int32) : Nat → Option Nat
  | 0 => none
  | m + 1 => if cr_bit lost (nI m) = 0 then some m else cr_last lost m
def cr_hd (W0 : Nat → Int32) (o : Option Nat) : Int32 := match o with
  | none => 0
  | some s => if W0 s < 0 then -(W0 s) else 0
def cr_od (t : Nat) (o : Option Nat) : Int32 := match o with
  | none => 99
  | some s => nI (t - s)
def cr_Ht (dl : Nat) (lost : Int32) (t : Nat) (s : cr_RS) : Int32 := cr_hd (fun u => rW s u 0) (cr_last lost (t + 1 - dl))
def cr_Ot (dl : Nat) (lost : Int32) (t : Nat) : Int32 := cr_od t (cr_last lost (t + 1 - dl))
def cr_Wt (p : cr_par) (dl : Nat) (lost : Int32) (t : Nat) (s : cr_RS) (i : Nat) : Int32 := if i = 0 then ppw p t else if cr_strS p i t then pwb p i (cr_vals (cr_sgm p t s) (rS s i) (pss p) (cr_Ht dl lost t s) (cr_Ot dl lost t)) else pwb p i (cr_vals (rG s i) (rS s i) (rS s (i - 1)) (cr_Ht dl lost t s) (cr_Ot dl lost t))
def cr_Wh (p : cr_par) (dl : Nat) (lost : Int32) (t : Nat) (s : cr_RS) (u i : Nat) : Int32 := if u = t then cr_Wt p dl lost t s i else rW s u i
def cr_clp (m v : Int32) : Int32 := if 0 < (if v < m then v else m) then (if v < m then v else m) else 0
def cr_S1 (p : cr_par) (dl : Nat) (lost : Int32) (t : Nat) (s : cr_RS) (i : Nat) : Int32 := cr_clp (psl p i (rP s i)) (rS s i + (if t < pft p i then 0 else cr_Wh p dl lost t s (t - pft p i) i))
def cr_G1 (p : cr_par) (dl : Nat) (lost : Int32) (t : Nat) (s : cr_RS) (i : Nat) : Int32 := rG s i + cr_S1 p dl lost t s (i - 1) - cr_S1 p dl lost t s i
def cr_P1 (p : cr_par) (dl : Nat) (lost : Int32) (t : Nat) (s : cr_RS) (i : Nat) : Int32 := rP s i + cr_S1 p dl lost t s i
def cr_X1 (p : cr_par) (dl : Nat) (lost : Int32) (t : Nat) (s : cr_RS) : Int32 := if cr_strS p (pL p) t ∧ pL p < pn p then cr_sgm p t s + (pss p - cr_S1 p dl lost t s (pL p)) else cr_sgm p t s
def cr_stp (p : cr_par) (dl : Nat) (lost : Int32) (t : Nat) (s : cr_RS) : cr_RS := (cr_S1 p dl lost t s, cr_G1 p dl lost t s, cr_P1 p dl lost t s, cr_X1 p dl lost t s, cr_Wh p dl lost t s)
def cr_rs (p : cr_par) (g : Int32) (dl : Nat) (lost : Int32) : Nat → cr_RS
  | 0 => (fun _ => ps0 p, fun _ => g, fun i => 300 - nI i * g, 0, fun _ _ => 0)
  | t + 1 => cr_stp p dl lost t (cr_rs p g dl lost t)
def cr_tcc (p : cr_par) (t : Nat) (s1 : cr_RS) (i : Nat) : Bool := decide (rG s1 i ≤ 0) || (decide (cr_strS p i t) && decide (rX s1 ≤ 0))
def cr_tc (p : cr_par) (g : Int32) (dl : Nat) (lost : Int32) : Nat → Int32 × Int32
  | 0 => (-1, -1)
  | t + 1 => if (cr_tc p g dl lost t).1 = -1 then (match cr_firstS (cr_tcc p t (cr_rs p g dl lost (t + 1))) 1 (pn p - 1) with | some i => (nI t, nI i) | none => cr_tc p g dl lost t) else cr_tc p g dl lost t
theorem cr_rs_W {p : cr_par} {g : Int32} {dl : Nat} {lost : Int32} {u i : Nat} : ∀ t, u < t → rW (cr_rs p g dl lost t) u i = cr_Wt p dl lost u (cr_rs p g dl lost u) i := by
  intro t
  induction t with
  | zero => intro h; omega
  | succ t ih =>
    intro h
    show cr_Wh p dl lost t (cr_rs p g dl lost t) u i = _
    unfold cr_Wh
    by_cases e : u = t
    · rw [if_pos e, e]
    · rw [if_neg e]
      exact ih (by omega)
/-- what keeps a run within bounds -/
def cr_pok (p : cr_par) : Prop := (1 ≤ pn p ∧ pn p ≤ 6) ∧ (0 ≤ (ps0 p).toInt ∧ (ps0 p).toInt ≤ 40) ∧ (∀ t, -9 ≤ (ppw p t).toInt) ∧ (∀ i q, 0 ≤ (psl p i q).toInt ∧ (psl p i q).toInt ≤ 40) ∧ (pfr p ≤ pto p ∧ pto p ≤ 31) ∧ (0 ≤ (pss p).toInt ∧ (pss p).toInt ≤ 40) ∧ pL p ≤ 5 ∧ ∀ i, pft p i ≤ 3
theorem cr_clp_b {m v : Int32} (h : 0 ≤ m.toInt) : 0 ≤ (cr_clp m v).toInt ∧ (cr_clp m v).toInt ≤ m.toInt := by
  unfold cr_clp
  have z : (0 : Int32).toInt = 0 := rfl
  by_cases q1 : v < m
  · rw [if_pos q1]
    rw [cr_lt] at q1
    by_cases q2 : 0 < v
    · rw [if_pos q2]
      rw [cr_lt] at q2
      omega
    · rw [if_neg q2]
      omega
  · rw [if_neg q1]
    by_cases q2 : 0 < m
    · rw [if_pos q2]
      omega
    · rw [if_neg q2]
      omega
theorem cr_rs_S {p : cr_par} {g : Int32} {dl : Nat} {lost : Int32} (hp : cr_pok p) : ∀ t i, 0 ≤ (rS (cr_rs p g dl lost t) i).toInt ∧ (rS (cr_rs p g dl lost t) i).toInt ≤ 40
  | 0, i => hp.2.1
  | t + 1, i => by
    have h1 := hp.2.2.2.1 i (rP (cr_rs p g dl lost t) i)
    have h2 := cr_clp_b (v := rS (cr_rs p g dl lost t) i + (if t < pft p i then 0 else cr_Wh p dl lost t (cr_rs p g dl lost t) (t - pft p i) i)) h1.1
    show 0 ≤ (cr_S1 p dl lost t (cr_rs p g dl lost t) i).toInt ∧ (cr_S1 p dl lost t (cr_rs p g dl lost t) i).toInt ≤ 40
    unfold cr_S1
    omega
/-- a touch, once it is there, stays -/
theorem cr_tc_le {p : cr_par} {g : Int32} {dl : Nat} {lost : Int32} {t : Nat} (h : ¬ (cr_tc p g dl lost t).1 = -1) : ∀ u, t ≤ u → cr_tc p g dl lost u = cr_tc p g dl lost t := by
  intro u
  induction u with
  | zero => intro hu; rw [show t = 0 by omega]
  | succ u ih =>
    intro hu
    by_cases e : t = u + 1
    · rw [e]
    · have h1 := ih (by omega)
      rw [cr_tc, h1, if_neg h]
