/-! THE CONSTRUCTORS. cr_mix: f outside, F within lo .. hi; cr_sB: one block by a list -/
def cr_mix {α : Type} (f : Nat → Nat → α) (lo hi : Nat) (F : Nat → Nat → α) : Nat → Nat → α := fun b k => if lo ≤ b ∧ b < hi then F b k else f b k
def cr_sB {α : Type} (f : Nat → Nat → α) (d : α) (c : Nat) (L : List α) : Nat → Nat → α := fun b k => if b = c then L.getD k d else f b k
def cr_nf {α : Type} (f F : Nat → Nat → α) (d : α) (b0 : Nat) (L : List α) (n : Nat) : Nat → Nat → α := cr_sB (cr_mix f (b0 + 1) n F) d b0 L
def cr_i0T : List (List Int32) := [[0, 0, 0, 0, 0, 0], [0, 0, 0, 0, 0], [], [0, 0, 0, 0, 0, 0], [], [], [], [], [], [], [], [], [], [], [], [], [], [], [], [], [], [], [], [], [], [], [], [0, 1, 0, 0, 0, 0, 0, 0, 0, 0, 0, 0, 0, 0, 0, 0, 0], [], [1, 4, 2, 0, 0], [0, 0, 0, 0, 0, 0], [], [], [], [], [], [], [], [], [], [], [], [], [], [], [], [], [], [], [], [], [], [], [], [1, 4, 2, 0, 0], [0, 0, 0, 0, 0, 0], [], [], [], [], [], [], [], [], [], [], [], [], [], [], [], [], [], [], [], [], [], [], [], [1, 4, 2, 0, 0], [0, 0, 0, 0, 0, 0], [], [], [], [], [], [], [], [], [], [], [], [], [], [], [], [], [], [], [], [], [], [], [], [1, 4, 2, 0, 0], [0, 0, 0, 0, 0, 0], [], [], [], [], [], [], [], [], [], [], [], [], [], [], [], [], [], [], [], [], [], [], [], [], [10, 20, 1, 2, 1], [], [], [], [], [], [], [0, 0, 0, 0, 0, 0, (-1), (-1), 0, 0], [], [], [], [], [], [], [], [], [], [], [], [], [], [], [], [], [], [], [], [], [], [], [], [], [], [], [], [], [], [], [], [0, 0, 0, 0, 0, 0, 0, 0], [], [], [], [], [], [], [], [0], [], [], [], [], [], [], [], [0, 0, 0, 0, 0, 0, 0, 0, 0], [], [], [], [], [], [], [], [], [], [], [], [], [], [], [0, 0, 0, 0, 0, 0, 0, 0, 0, 0, 0, 0, 0, 1, 0, 0, 0, 0, 0, 0, 0, 0, 0, 0, 0, 0, 0, 0, 0, 0, 0, 0, 0, 0, 0, 0, 0, 0, 0, 0, 0, 0, 0, 0, 0, 0, 0, 0, 0, 0, 0, 0, 0, 0, 0, 0, 0, 0, 0, 0, 0, 0, 0, 0, 0], [1, 1, 1, 1], [4, 4, 4, 4], [2, 2, 2, 2], [], [], [], [], [], [], [], [], [], [], [10, 20, 1, 2, 1], [], [], [], [], [], [], [], [], [], [], [], [], [], [], [], [], [], [], [], [], [], [], [], [], [], [], [], [], [], [], [], []]
def cr_r0T : List (List (Option Nat)) := [[], [], [], [], [], [], [some 7, some 8, some 9, some 10, some 11, some 12], [], [], [], [], [], [], [some 14, some 15, some 16, some 17, some 18, some 19], [], [], [], [], [], [], [some 21, some 22, some 23, some 24, some 25, some 26], [], [], [], [], [], [], [], [], [], [], [], [], [some 34, some 35, some 36, some 37, some 38, some 39], [], [], [], [], [], [], [some 41, some 42, some 43, some 44, some 45, some 46], [], [], [], [], [], [], [some 48, some 49, some 50, some 51, some 52, some 53], [], [], [], [], [], [], [], [], [], [], [some 59, some 60, some 61, some 62, some 63, some 64], [], [], [], [], [], [], [some 66, some 67, some 68, some 69, some 70, some 71], [], [], [], [], [], [], [some 73, some 74, some 75, some 76, some 77, some 78], [], [], [], [], [], [], [], [], [], [], [some 84, some 85, some 86, some 87, some 88, some 89], [], [], [], [], [], [], [some 91, some 92, some 93, some 94, some 95, some 96], [], [], [], [], [], [], [some 98, some 99, some 100, some 101, some 102, some 103], [], [], [], [], [], [], [], [], [], [], [some 109, some 110, some 111, some 112, some 113, some 114], [], [], [], [], [], [], [some 116, some 117, some 118, some 119, some 120, some 121], [], [], [], [], [], [], [some 123, some 124, some 125, some 126, some 127, some 128], [], [], [], [], [], [], [], [], [], [], [], [], [], [], [], [some 139, some 140, some 141, some 142, some 143, some 144], [], [], [], [], [], [], [some 146, some 147, some 148, some 149, some 150, some 151], [], [], [], [], [], [], [some 153, some 154, some 155, some 156, some 157, some 158], [], [], [], [], [], [], [some 160, some 161, some 162, some 163, some 164, some 165], [], [], [], [], [], [], [], [], [], [], [], [], [], [], [], [], [], [], [some 179, some 180, some 181, some 182, some 183, some 184], [], [], [], [], [], [], [], [], [], [], [], [], [], [some 193, some 194, some 195, some 196, some 197, some 198, some 199], [], [], [], [], [], [], [], [], [], [], [], [], [], [], [], [], [], [], [], [], [], [], [], [], [], [], [], [], [], [], [], [], [], [], [], [], [], [], [], [], [], [], [], [], [], [], [], [], [], [], [], [], [], []]
def cr_rFT : List (List (Option Nat)) := [[some 1, some 27, some 137, some 169, some 177, some 185], [some 2, none, some 3, none, none], [], [none, some 4, some 5, some 6, some 13, some 20], [], [], [some 7, some 8, some 9, some 10, some 11, some 12], [], [], [], [], [], [], [some 14, some 15, some 16, some 17, some 18, some 19], [], [], [], [], [], [], [some 21, some 22, some 23, some 24, some 25, some 26], [], [], [], [], [], [], [some 28, none, some 129, some 130, none, none, some 131, some 132, none, some 133, some 134, some 135, some 136, none, none, none, none], [some 29, some 54, some 79, some 104], [none, none, none, none, some 30], [none, some 31, some 32, some 33, some 40, some 47], [], [], [some 34, some 35, some 36, some 37, some 38, some 39], [], [], [], [], [], [], [some 41, some 42, some 43, some 44, some 45, some 46], [], [], [], [], [], [], [some 48, some 49, some 50, some 51, some 52, some 53], [], [], [], [], [], [], [none, none, none, none, some 55], [none, some 56, some 57, some 58, some 65, some 72], [], [], [some 59, some 60, some 61, some 62, some 63, some 64], [], [], [], [], [], [], [some 66, some 67, some 68, some 69, some 70, some 71], [], [], [], [], [], [], [some 73, some 74, some 75, some 76, some 77, some 78], [], [], [], [], [], [], [none, none, none, none, some 80], [none, some 81, some 82, some 83, some 90, some 97], [], [], [some 84, some 85, some 86, some 87, some 88, some 89], [], [], [], [], [], [], [some 91, some 92, some 93, some 94, some 95, some 96], [], [], [], [], [], [], [some 98, some 99, some 100, some 101, some 102, some 103], [], [], [], [], [], [], [none, none, none, none, some 105], [none, some 106, some 107, some 108, some 115, some 122], [], [], [some 109, some 110, some 111, some 112, some 113, some 114], [], [], [], [], [], [], [some 116, some 117, some 118, some 119, some 120, some 121], [], [], [], [], [], [], [some 123, some 124, some 125, some 126, some 127, some 128], [], [], [], [], [], [], [], [], [], [], [], [], [], [], [some 138, some 145, some 152, some 159, some 166, some 167, none, none, some 168, none], [some 139, some 140, some 141, some 142, some 143, some 144], [], [], [], [], [], [], [some 146, some 147, some 148, some 149, some 150, some 151], [], [], [], [], [], [], [some 153, some 154, some 155, some 156, some 157, some 158], [], [], [], [], [], [], [some 160, some 161, some 162, some 163, some 164, some 165], [], [], [], [], [], [], [], [], [], [none, some 170, some 171, some 172, some 173, some 174, some 175, some 176], [], [], [], [], [], [], [], [some 178], [some 179, some 180, some 181, some 182, some 183, some 184], [], [], [], [], [], [], [some 186, none, some 187, some 188, none, some 189, some 190, some 191, some 192], [], [], [], [], [], [], [some 193, some 194, some 195, some 196, some 197, some 198, some 199], [], [], [], [], [], [], [], [some 201, some 202, some 203, some 204, some 205, none, some 206, some 207, some 208, some 209, some 210, some 211, some 212, none, some 213, some 214, some 215, some 216, none, none, some 217, some 218, some 219, some 220, none, none, none, none, none, some 221, some 222, some 223, some 224, some 225, none, some 226, some 227, some 228, some 229, none, some 230, some 231, some 232, none, none, none, none, none, some 233, some 234, some 235, some 236, some 237, some 238, some 239, none, none, some 240, some 241, some 242, none, some 243, some 244, some 245, some 246], [], [], [], [], [], [], [], [], [], [], [], [], [], [], [], [], [], [], [], [], [], [], [], [], [], [], [], [], [], [], [], [], [], [], [], [], [], [], [], [], [], [], [], [], [], []]
def cr_I0 (b k : Nat) : Int32 := (cr_i0T.getD b []).getD k 0
def cr_R0 (b k : Nat) : Option Nat := (cr_r0T.getD b []).getD k none
def cr_RF (b k : Nat) : Option Nat := (cr_rFT.getD b []).getD k none
abbrev cr_rmC (f q nS nE : Nat) : Room := { frames := f, cells := nE - nS, slots := cr_sl nE - cr_sl nS, locals := q }
theorem cr_sB_put {α : Type} {f : Nat → Nat → α} {d v : α} {c k : Nat} {L : List α} (h : k < L.length) : cr_up (cr_sB f d c L) c k v = cr_sB f d c (L.set k v) := by
  funext b j
  unfold cr_up cr_sB
  by_cases hb : b = c
  · subst hb
    by_cases hj : j = k
    · subst hj
      simp [List.getD_eq_getElem?_getD, h]
    · simp [hj, List.getD_eq_getElem?_getD, List.getElem?_set, Ne.symm hj]
  · simp [hb]
theorem cr_nf_hi {α : Type} {f F : Nat → Nat → α} {d : α} {b0 n b k : Nat} {L : List α} (h0 : b0 < n) (hb : n ≤ b) : cr_nf f F d b0 L n b k = f b k := by
  unfold cr_nf cr_sB cr_mix
  rw [if_neg (by omega), if_neg (by omega)]
theorem cr_sB_o {α : Type} {f : Nat → Nat → α} {d : α} {c b k : Nat} {L : List α} (h : b ≠ c) : cr_sB f d c L b k = f b k := if_neg h
theorem cr_nf_adv {α : Type} {f F : Nat → Nat → α} {d : α} {b0 n m : Nat} {L : List α} (h0 : b0 < n) (hm : n ≤ m) (h : ∀ b k, n ≤ b → b < m → f b k = F b k) : cr_nf f F d b0 L n = cr_nf f F d b0 L m := by
  funext b k
  unfold cr_nf cr_sB cr_mix
  by_cases hb : b = b0
  · rw [if_pos hb, if_pos hb]
  · rw [if_neg hb, if_neg hb]
    by_cases h1 : b0 + 1 ≤ b ∧ b < n
    · rw [if_pos h1, if_pos (by omega)]
    · rw [if_neg h1]
      by_cases h2 : b0 + 1 ≤ b ∧ b < m
      · rw [if_pos h2]
        exact h b k (by omega) h2.2
      · rw [if_neg h2]
theorem cr_nf_open {α : Type} {f F : Nat → Nat → α} {d : α} {b0 n : Nat} {L : List α} (N : Nat) (h0 : b0 < n) (h : ∀ k, f n k = d) : cr_nf f F d b0 L n = cr_sB (cr_nf f F d b0 L (n + 1)) d n (List.replicate N d) := by
  funext b k
  by_cases hb : b = n
  · subst hb
    rw [cr_nf_hi h0 (Nat.le_refl _), h]
    unfold cr_sB
    rw [if_pos rfl, List.getD_eq_getElem?_getD, List.getElem?_replicate]
    split <;> rfl
  · rw [cr_sB_o hb]
    unfold cr_nf cr_sB cr_mix
    by_cases hb0 : b = b0
    · rw [if_pos hb0, if_pos hb0]
    · rw [if_neg hb0, if_neg hb0]
      by_cases h1 : b0 + 1 ≤ b ∧ b < n
      · rw [if_pos h1, if_pos (by omega)]
      · rw [if_neg h1, if_neg (by omega)]
theorem cr_nf_close {α : Type} {f F : Nat → Nat → α} {d : α} {b0 n c : Nat} {L L' : List α} (h0 : b0 < c) (hc : c < n) (h : ∀ k, F c k = L'.getD k d) : cr_sB (cr_nf f F d b0 L n) d c L' = cr_nf f F d b0 L n := by
  funext b k
  by_cases hb : b = c
  · subst hb
    unfold cr_nf cr_sB cr_mix
    rw [if_pos rfl, if_neg (by omega), if_pos (by omega), h]
  · rw [cr_sB_o hb]
theorem cr_nf_sub {α : Type} {f F : Nat → Nat → α} {d : α} {b0 n m : Nat} {L : List α} (h0 : b0 < n) (hm : n ≤ m) : cr_mix (cr_nf f F d b0 L n) n m F = cr_nf f F d b0 L m := by
  funext b k
  simp only [cr_nf, cr_sB, cr_mix]
  by_cases h1 : n ≤ b ∧ b < m
  · rw [if_pos h1, if_neg (by omega), if_pos (by omega)]
  · rw [if_neg h1]
    by_cases hb0 : b = b0
    · rw [if_pos hb0, if_pos hb0]
    · rw [if_neg hb0, if_neg hb0]
      by_cases h2 : b0 + 1 ≤ b ∧ b < n
      · rw [if_pos h2, if_pos (by omega)]
      · rw [if_neg h2, if_neg (by omega)]
theorem cr_nf_subO {α : Type} {f F : Nat → Nat → α} {d : α} {b0 n m c : Nat} {L L' : List α} (h0 : b0 < n) (hm : n ≤ m) (hc : c < n) : cr_mix (cr_sB (cr_nf f F d b0 L n) d c L') n m F = cr_sB (cr_nf f F d b0 L m) d c L' := by
  rw [← cr_nf_sub h0 hm]
  funext b k
  unfold cr_mix
  by_cases hb : b = c
  · subst hb
    rw [if_neg (by omega)]
    unfold cr_sB
    rw [if_pos rfl, if_pos rfl]
  · rw [cr_sB_o hb, cr_sB_o hb]
theorem cr_nf_end {α : Type} {f F : Nat → Nat → α} {d : α} {b0 n : Nat} {L : List α} (h0 : b0 < n) (h : ∀ k, F b0 k = L.getD k d) : cr_nf f F d b0 L n = cr_mix f b0 n F := by
  funext b k
  unfold cr_nf cr_sB cr_mix
  by_cases hb : b = b0
  · subst hb
    rw [if_pos rfl, if_pos (by omega), h]
  · rw [if_neg hb]
    by_cases h2 : b0 + 1 ≤ b ∧ b < n
    · rw [if_pos h2, if_pos (by omega)]
    · rw [if_neg h2, if_neg (by omega)]
theorem cr_nf_start {α : Type} {f : Nat → Nat → α} (F : Nat → Nat → α) {d : α} {b0 : Nat} (N : Nat) (h : ∀ k, f b0 k = d) : f = cr_nf f F d b0 (List.replicate N d) (b0 + 1) := by
  funext b k
  unfold cr_nf cr_sB cr_mix
  by_cases hb : b = b0
  · subst hb
    rw [if_pos rfl, h, List.getD_eq_getElem?_getD, List.getElem?_replicate]
    split <;> rfl
  · rw [if_neg hb, if_neg (by omega)]
def cr_Z0 (b0 : Nat) (I : cr_I) (R : cr_R) : Prop := (∀ b, b0 ≤ b → ∀ k, I b k = 0) ∧ ∀ b, b0 ≤ b → ∀ k, R b k = cr_R0 b k
theorem cr_Z0.nf {b0 n : Nat} {I : cr_I} {R : cr_R} {LI : List Int32} {LR : List (Option Nat)} (h : cr_Z0 b0 I R) (h0 : b0 < n) : cr_Z0 n (cr_nf I cr_I0 0 b0 LI n) (cr_nf R cr_RF none b0 LR n) :=
  ⟨fun b hb k => (cr_nf_hi h0 hb).trans (h.1 b (by omega) k), fun b hb k => (cr_nf_hi h0 hb).trans (h.2 b (by omega) k)⟩
theorem cr_Z0.oR {n c : Nat} {I : cr_I} {R : cr_R} {L : List (Option Nat)} (h : cr_Z0 n I R) (hc : c < n) : cr_Z0 n I (cr_sB R none c L) := ⟨h.1, fun b hb k => (cr_sB_o (by omega)).trans (h.2 b hb k)⟩
theorem cr_Z0.oI {n c : Nat} {I : cr_I} {R : cr_R} {L : List Int32} (h : cr_Z0 n I R) (hc : c < n) : cr_Z0 n (cr_sB I 0 c L) R := ⟨fun b hb k => (cr_sB_o (by omega)).trans (h.1 b hb k), h.2⟩
theorem cr_Z0.no {n : Nat} {I : cr_I} {R : cr_R} (h : cr_Z0 n I R) (e : cr_r0T.getD n [] = []) (k : Nat) : R n k = none := by
  rw [h.2 n (Nat.le_refl _) k]
  unfold cr_R0
  rw [e]
  rfl
theorem cr_Z0.advI {b0 n m : Nat} {I : cr_I} {R : cr_R} {L : List Int32} (h : cr_Z0 b0 I R) (h0 : b0 < n) (hm : n ≤ m) (e : ∀ b, b < m → n ≤ b → cr_i0T.getD b [] = []) : cr_nf I cr_I0 0 b0 L n = cr_nf I cr_I0 0 b0 L m := cr_nf_adv h0 hm fun b k h1 h2 => by
  rw [h.1 b (by omega) k]
  unfold cr_I0
  rw [e b h2 h1]
  rfl
theorem cr_Z0.advR {b0 n m : Nat} {I : cr_I} {R : cr_R} {L : List (Option Nat)} (h : cr_Z0 b0 I R) (h0 : b0 < n) (hm : n ≤ m) (e : ∀ b, b < m → n ≤ b → cr_r0T.getD b [] = cr_rFT.getD b []) : cr_nf R cr_RF none b0 L n = cr_nf R cr_RF none b0 L m := cr_nf_adv h0 hm fun b k h1 h2 => by
  rw [h.2 b (by omega) k]
  unfold cr_R0 cr_RF
  rw [e b h2 h1]
theorem cr_Z0.opI {b0 n : Nat} {I : cr_I} {R : cr_R} {L : List Int32} (h : cr_Z0 b0 I R) (N : Nat) (h0 : b0 < n) : cr_nf I cr_I0 0 b0 L n = cr_sB (cr_nf I cr_I0 0 b0 L (n + 1)) 0 n (List.replicate N 0) := cr_nf_open N h0 fun k => h.1 n (by omega) k
theorem cr_Z0.opR {b0 n : Nat} {I : cr_I} {R : cr_R} {L : List (Option Nat)} (h : cr_Z0 b0 I R) (N : Nat) (h0 : b0 < n) (e : cr_r0T.getD n [] = []) : cr_nf R cr_RF none b0 L n = cr_sB (cr_nf R cr_RF none b0 L (n + 1)) none n (List.replicate N none) := cr_nf_open N h0 fun k => by
  rw [h.2 n (by omega) k]
  unfold cr_R0
  rw [e]
  rfl
theorem cr_I0_of {b : Nat} {L : List Int32} (e : cr_i0T.getD b [] = L) (k : Nat) : cr_I0 b k = L.getD k 0 := by unfold cr_I0; rw [e]
theorem cr_RF_of {b : Nat} {L : List (Option Nat)} (e : cr_rFT.getD b [] = L) (k : Nat) : cr_RF b k = L.getD k none := by unfold cr_RF; rw [e]
theorem cr_Z0.aI {b0 n b k : Nat} {I : cr_I} {R : cr_R} {L : List Int32} (h : cr_Z0 b0 I R) (h0 : b0 < n) (hb : n ≤ b) : cr_nf I cr_I0 0 b0 L n b k = 0 := (cr_nf_hi h0 hb).trans (h.1 b (by omega) k)
theorem cr_Z0.aR {b0 n b k : Nat} {I : cr_I} {R : cr_R} {L : List (Option Nat)} (h : cr_Z0 b0 I R) (h0 : b0 < n) (hb : n ≤ b) : cr_nf R cr_RF none b0 L n b k = cr_R0 b k := (cr_nf_hi h0 hb).trans (h.2 b (by omega) k)
theorem cr_R0_nil {n k : Nat} (e : cr_r0T.getD n [] = []) : cr_R0 n k = none := by unfold cr_R0; rw [e]; rfl
theorem cr_R0_of {b N : Nat} (e : ∀ j, j < N → cr_R0 b j = some (b + 1 + j)) {n : Nat} {I : cr_I} {R : cr_R} (h : cr_Z0 n I R) (hb : n ≤ b) : ∀ j, j < N → R b j = some (b + 1 + j) := fun j hj => (h.2 b hb j).trans (e j hj)
theorem cr_tf0 : ∀ k, k < 9 → defaultValue (tyX0 k) = if cr_fi 0 k = true then .int 0 else .null := by
  intro k hk
  match k, hk with
  | 0, _ => rfl
  | 1, _ => rfl
  | 2, _ => rfl
  | 3, _ => rfl
  | 4, _ => rfl
  | 5, _ => rfl
  | 6, _ => rfl
  | 7, _ => rfl
  | 8, _ => rfl
  | k + 9, h => exact absurd h (by omega)
theorem cr_tf1 : ∀ k, k < 8 → defaultValue (tyX1 k) = if cr_fi 1 k = true then .int 0 else .null := by
  intro k hk
  match k, hk with
  | 0, _ => rfl
  | 1, _ => rfl
  | 2, _ => rfl
  | 3, _ => rfl
  | 4, _ => rfl
  | 5, _ => rfl
  | 6, _ => rfl
  | 7, _ => rfl
  | k + 8, h => exact absurd h (by omega)
theorem cr_tf2 : ∀ k, k < 5 → defaultValue (tyX2 k) = if cr_fi 2 k = true then .int 0 else .null := by
  intro k hk
  match k, hk with
  | 0, _ => rfl
  | 1, _ => rfl
  | 2, _ => rfl
  | 3, _ => rfl
  | 4, _ => rfl
  | k + 5, h => exact absurd h (by omega)
theorem cr_tf3 : ∀ k, k < 17 → defaultValue (tyX3 k) = if cr_fi 3 k = true then .int 0 else .null := by
  intro k hk
  match k, hk with
  | 0, _ => rfl
  | 1, _ => rfl
  | 2, _ => rfl
  | 3, _ => rfl
  | 4, _ => rfl
  | 5, _ => rfl
  | 6, _ => rfl
  | 7, _ => rfl
  | 8, _ => rfl
  | 9, _ => rfl
  | 10, _ => rfl
  | 11, _ => rfl
  | 12, _ => rfl
  | 13, _ => rfl
  | 14, _ => rfl
  | 15, _ => rfl
  | 16, _ => rfl
  | k + 17, h => exact absurd h (by omega)
theorem cr_tf4 : ∀ k, k < 10 → defaultValue (tyX4 k) = if cr_fi 4 k = true then .int 0 else .null := by
  intro k hk
  match k, hk with
  | 0, _ => rfl
  | 1, _ => rfl
  | 2, _ => rfl
  | 3, _ => rfl
  | 4, _ => rfl
  | 5, _ => rfl
  | 6, _ => rfl
  | 7, _ => rfl
  | 8, _ => rfl
  | 9, _ => rfl
  | k + 10, h => exact absurd h (by omega)
theorem cr_tf5 : ∀ k, k < 1 → defaultValue (tyX5 k) = if cr_fi 5 k = true then .int 0 else .null := by
  intro k hk
  match k, hk with
  | 0, _ => rfl
  | k + 1, h => exact absurd h (by omega)
theorem cr_tf6 : ∀ k, k < 6 → defaultValue (tyX6 k) = if cr_fi 6 k = true then .int 0 else .null := by
  intro k hk
  match k, hk with
  | 0, _ => rfl
  | 1, _ => rfl
  | 2, _ => rfl
  | 3, _ => rfl
  | 4, _ => rfl
  | 5, _ => rfl
  | k + 6, h => exact absurd h (by omega)
theorem cr_tf7 : ∀ k, k < 5 → defaultValue (tyX7 k) = if cr_fi 7 k = true then .int 0 else .null := by
  intro k hk
  match k, hk with
  | 0, _ => rfl
  | 1, _ => rfl
  | 2, _ => rfl
  | 3, _ => rfl
  | 4, _ => rfl
  | k + 5, h => exact absurd h (by omega)
theorem cr_tf8 : ∀ k, k < 6 → defaultValue (tyX8 k) = if cr_fi 8 k = true then .int 0 else .null := by
  intro k hk
  match k, hk with
  | 0, _ => rfl
  | 1, _ => rfl
  | 2, _ => rfl
  | 3, _ => rfl
  | 4, _ => rfl
  | 5, _ => rfl
  | k + 6, h => exact absurd h (by omega)
theorem cr_tf9 : ∀ k, k < 65 → defaultValue (tyX9 k) = if cr_fi 9 k = true then .int 0 else .null := by
  intro k hk
  match k, hk with
  | 0, _ => rfl
  | 1, _ => rfl
  | 2, _ => rfl
  | 3, _ => rfl
  | 4, _ => rfl
  | 5, _ => rfl
  | 6, _ => rfl
  | 7, _ => rfl
  | 8, _ => rfl
  | 9, _ => rfl
  | 10, _ => rfl
  | 11, _ => rfl
  | 12, _ => rfl
  | 13, _ => rfl
  | 14, _ => rfl
  | 15, _ => rfl
  | 16, _ => rfl
  | 17, _ => rfl
  | 18, _ => rfl
  | 19, _ => rfl
  | 20, _ => rfl
  | 21, _ => rfl
  | 22, _ => rfl
  | 23, _ => rfl
  | 24, _ => rfl
  | 25, _ => rfl
  | 26, _ => rfl
  | 27, _ => rfl
  | 28, _ => rfl
  | 29, _ => rfl
  | 30, _ => rfl
  | 31, _ => rfl
  | 32, _ => rfl
  | 33, _ => rfl
  | 34, _ => rfl
  | 35, _ => rfl
  | 36, _ => rfl
  | 37, _ => rfl
  | 38, _ => rfl
  | 39, _ => rfl
  | 40, _ => rfl
  | 41, _ => rfl
  | 42, _ => rfl
  | 43, _ => rfl
  | 44, _ => rfl
  | 45, _ => rfl
  | 46, _ => rfl
  | 47, _ => rfl
  | 48, _ => rfl
  | 49, _ => rfl
  | 50, _ => rfl
  | 51, _ => rfl
  | 52, _ => rfl
  | 53, _ => rfl
  | 54, _ => rfl
  | 55, _ => rfl
  | 56, _ => rfl
  | 57, _ => rfl
  | 58, _ => rfl
  | 59, _ => rfl
  | 60, _ => rfl
  | 61, _ => rfl
  | 62, _ => rfl
  | 63, _ => rfl
  | 64, _ => rfl
  | k + 65, h => exact absurd h (by omega)
theorem cr_V_eq {Γ : cr_G} {pc : Nat} {ls st : List Value} {I I' : cr_I} {R R' : cr_R} {n : Nat} (e1 : I = I') (e2 : R = R') (k : cr_V Γ pc ls st I' R' n) : cr_V Γ pc ls st I R n := by subst e1; subst e2; exact k
abbrev T_yX6_init_3 : cr_T := fun vs I R K => vs = [.ref 3] ∧ cr_Z0 3 I R ∧ K none (cr_mix I 3 27 cr_I0) (cr_mix R 3 27 cr_RF)
theorem C_yX6_init_3 : cr_C yX6_init cX6_init 1 none (cr_rmC 1 20 4 27) 4 27 T_yX6_init_3 := by
  refine cr_C.of (by decide +kernel) (fun vs I R K hT => by obtain ⟨rfl, -, -⟩ := hT; exact Nat.le_of_ble_eq_true rfl) (fun Γ K h vs I R hT => ?_)
  obtain ⟨rfl, hZ, hK⟩ := hT
  show cr_V Γ 0 [.ref 3] [] I R 4
  refine cr_V_eq (cr_nf_start cr_I0 6 (fun k => hZ.1 3 (Nat.le_refl _) k)) (cr_nf_start cr_RF 6 (fun k => hZ.no (by decide +kernel) k)) ?_
  show cr_V Γ 0 [.ref 3] [] (cr_nf I cr_I0 0 3 [0, 0, 0, 0, 0, 0] 4) (cr_nf R cr_RF none 3 [none, none, none, none, none, none] 4) 4
  refine cr_aload_n h (j := 0) rfl rfl dX6_init_0 ?_
  refine cr_objI h wm_X6_3 wv_objectInit cr_oc (Nat.le_of_ble_eq_true rfl) ⟨by decide, by decide⟩ dX6_init_1 ?_
  refine cr_aload_n h (j := 0) rfl rfl dX6_init_4 ?_
  refine cr_iconst h (v := (0 : Int32)) (by decide) dX6_init_5 ?_
  refine cr_putI h cr_clsX6 (k := 0) (by decide) (by decide) rfl rfl rfl wf_X6_9 (by decide) (by decide) rfl dX6_init_6 ?_
  unfold cr_nf
  rw [cr_sB_put (by decide)]
  show cr_V Γ 9 [.ref 3] [] (cr_nf I cr_I0 0 3 [0, 0, 0, 0, 0, 0] 4) (cr_nf R cr_RF none 3 [none, none, none, none, none, none] 4) 4
  refine cr_aload_n h (j := 0) rfl rfl dX6_init_9 ?_
  refine cr_bipush h (v := (6 : Int32)) (by decide) dX6_init_10 ?_
  refine cr_newa h wA_int (N := 6) (by decide) (by decide) rfl (fun k => hZ.aI (by decide) (Nat.le_refl _)) ⟨⟨by decide, by decide, by decide, by decide⟩, rfl, rfl⟩ dX6_init_12 ?_
  rw [hZ.advI (n := 4) (m := 5) (by decide) (by decide) (by decide +kernel), hZ.advR (n := 4) (m := 5) (by decide) (by decide) (by decide +kernel)]
  show cr_V Γ 14 [.ref 3] [.ref 4, .ref 3] (cr_nf I cr_I0 0 3 [0, 0, 0, 0, 0, 0] 5) (cr_nf R cr_RF none 3 [none, none, none, none, none, none] 5) 5
  refine cr_putRF h cr_clsX6 (k := 1) (by decide) (by decide) (Or.inr ⟨_, rfl⟩) rfl rfl rfl rfl wf_X6_15 (by decide) (by decide) rfl dX6_init_14 ?_
  unfold cr_nf
  rw [cr_sB_put (by decide)]
  show cr_V Γ 17 [.ref 3] [] (cr_nf I cr_I0 0 3 [0, 0, 0, 0, 0, 0] 5) (cr_nf R cr_RF none 3 [none, some 4, none, none, none, none] 5) 5
  refine cr_aload_n h (j := 0) rfl rfl dX6_init_17 ?_
  refine cr_bipush h (v := (6 : Int32)) (by decide) dX6_init_18 ?_
  refine cr_newa h wA_int (N := 6) (by decide) (by decide) rfl (fun k => hZ.aI (by decide) (Nat.le_refl _)) ⟨⟨by decide, by decide, by decide, by decide⟩, rfl, rfl⟩ dX6_init_20 ?_
  rw [hZ.advI (n := 5) (m := 6) (by decide) (by decide) (by decide +kernel), hZ.advR (n := 5) (m := 6) (by decide) (by decide) (by decide +kernel)]
  show cr_V Γ 22 [.ref 3] [.ref 5, .ref 3] (cr_nf I cr_I0 0 3 [0, 0, 0, 0, 0, 0] 6) (cr_nf R cr_RF none 3 [none, some 4, none, none, none, none] 6) 6
  refine cr_putRF h cr_clsX6 (k := 2) (by decide) (by decide) (Or.inr ⟨_, rfl⟩) rfl rfl rfl rfl wf_X6_19 (by decide) (by decide) rfl dX6_init_22 ?_
  unfold cr_nf
  rw [cr_sB_put (by decide)]
  show cr_V Γ 25 [.ref 3] [] (cr_nf I cr_I0 0 3 [0, 0, 0, 0, 0, 0] 6) (cr_nf R cr_RF none 3 [none, some 4, some 5, none, none, none] 6) 6
  refine cr_aload_n h (j := 0) rfl rfl dX6_init_25 ?_
  refine cr_bipush h (v := (6 : Int32)) (by decide) dX6_init_26 ?_
  refine cr_iconst h (v := (4 : Int32)) (by decide) dX6_init_28 ?_
  refine cr_mna h wl_X6_22 wA_int (N := 6) (M := 4) (by decide) (by decide) (by decide) (by decide) rfl (by decide +kernel) (fun j hj => (hZ.aR (by decide) (Nat.le_refl _)).trans ((show ∀ j, j < 6 → cr_R0 6 j = some (6 + 1 + j) by decide +kernel) j hj)) (fun j _ k => hZ.aI (by decide) (by omega)) ⟨⟨by decide, by decide, by decide, by decide⟩, rfl, rfl⟩ dX6_init_29 ?_
  rw [hZ.advI (n := 6) (m := 13) (by decide) (by decide) (by decide +kernel), hZ.advR (n := 6) (m := 13) (by decide) (by decide) (by decide +kernel)]
  show cr_V Γ 33 [.ref 3] [.ref 6, .ref 3] (cr_nf I cr_I0 0 3 [0, 0, 0, 0, 0, 0] 13) (cr_nf R cr_RF none 3 [none, some 4, some 5, none, none, none] 13) 13
  refine cr_putRF h cr_clsX6 (k := 3) (by decide) (by decide) (Or.inr ⟨_, rfl⟩) rfl rfl rfl rfl wf_X6_24 (by decide) (by decide) rfl dX6_init_33 ?_
  unfold cr_nf
  rw [cr_sB_put (by decide)]
  show cr_V Γ 36 [.ref 3] [] (cr_nf I cr_I0 0 3 [0, 0, 0, 0, 0, 0] 13) (cr_nf R cr_RF none 3 [none, some 4, some 5, some 6, none, none] 13) 13
  refine cr_aload_n h (j := 0) rfl rfl dX6_init_36 ?_
  refine cr_bipush h (v := (6 : Int32)) (by decide) dX6_init_37 ?_
  refine cr_iconst h (v := (4 : Int32)) (by decide) dX6_init_39 ?_
  refine cr_mna h wl_X6_22 wA_int (N := 6) (M := 4) (by decide) (by decide) (by decide) (by decide) rfl (by decide +kernel) (fun j hj => (hZ.aR (by decide) (Nat.le_refl _)).trans ((show ∀ j, j < 6 → cr_R0 13 j = some (13 + 1 + j) by decide +kernel) j hj)) (fun j _ k => hZ.aI (by decide) (by omega)) ⟨⟨by decide, by decide, by decide, by decide⟩, rfl, rfl⟩ dX6_init_40 ?_
  rw [hZ.advI (n := 13) (m := 20) (by decide) (by decide) (by decide +kernel), hZ.advR (n := 13) (m := 20) (by decide) (by decide) (by decide +kernel)]
  show cr_V Γ 44 [.ref 3] [.ref 13, .ref 3] (cr_nf I cr_I0 0 3 [0, 0, 0, 0, 0, 0] 20) (cr_nf R cr_RF none 3 [none, some 4, some 5, some 6, none, none] 20) 20
  refine cr_putRF h cr_clsX6 (k := 4) (by decide) (by decide) (Or.inr ⟨_, rfl⟩) rfl rfl rfl rfl wf_X6_27 (by decide) (by decide) rfl dX6_init_44 ?_
  unfold cr_nf
  rw [cr_sB_put (by decide)]
  show cr_V Γ 47 [.ref 3] [] (cr_nf I cr_I0 0 3 [0, 0, 0, 0, 0, 0] 20) (cr_nf R cr_RF none 3 [none, some 4, some 5, some 6, some 13, none] 20) 20
  refine cr_aload_n h (j := 0) rfl rfl dX6_init_47 ?_
  refine cr_bipush h (v := (6 : Int32)) (by decide) dX6_init_48 ?_
  refine cr_iconst h (v := (4 : Int32)) (by decide) dX6_init_50 ?_
  refine cr_mna h wl_X6_22 wA_int (N := 6) (M := 4) (by decide) (by decide) (by decide) (by decide) rfl (by decide +kernel) (fun j hj => (hZ.aR (by decide) (Nat.le_refl _)).trans ((show ∀ j, j < 6 → cr_R0 20 j = some (20 + 1 + j) by decide +kernel) j hj)) (fun j _ k => hZ.aI (by decide) (by omega)) ⟨⟨by decide, by decide, by decide, by decide⟩, rfl, rfl⟩ dX6_init_51 ?_
  rw [hZ.advI (n := 20) (m := 27) (by decide) (by decide) (by decide +kernel), hZ.advR (n := 20) (m := 27) (by decide) (by decide) (by decide +kernel)]
  show cr_V Γ 55 [.ref 3] [.ref 20, .ref 3] (cr_nf I cr_I0 0 3 [0, 0, 0, 0, 0, 0] 27) (cr_nf R cr_RF none 3 [none, some 4, some 5, some 6, some 13, none] 27) 27
  refine cr_putRF h cr_clsX6 (k := 5) (by decide) (by decide) (Or.inr ⟨_, rfl⟩) rfl rfl rfl rfl wf_X6_30 (by decide) (by decide) rfl dX6_init_55 ?_
  unfold cr_nf
  rw [cr_sB_put (by decide)]
  show cr_V Γ 58 [.ref 3] [] (cr_nf I cr_I0 0 3 [0, 0, 0, 0, 0, 0] 27) (cr_nf R cr_RF none 3 [none, some 4, some 5, some 6, some 13, some 20] 27) 27
  rw [cr_nf_end (by decide) (cr_I0_of (by decide +kernel)), cr_nf_end (by decide) (cr_RF_of (by decide +kernel))]
  exact cr_vret h rfl rfl dX6_init_58 hK
abbrev T_yX7_init_1 : cr_T := fun vs I R K => vs = [.ref 1] ∧ cr_Z0 1 I R ∧ K none (cr_mix I 1 27 cr_I0) (cr_mix R 1 27 cr_RF)
theorem C_yX7_init_1 : cr_C yX7_init cX7_init 1 none (cr_rmC 2 40 2 27) 2 27 T_yX7_init_1 := by
  refine cr_C.of (by decide +kernel) (fun vs I R K hT => by obtain ⟨rfl, -, -⟩ := hT; exact Nat.le_of_ble_eq_true rfl) (fun Γ K h vs I R hT => ?_)
  obtain ⟨rfl, hZ, hK⟩ := hT
  show cr_V Γ 0 [.ref 1] [] I R 2
  refine cr_V_eq (cr_nf_start cr_I0 5 (fun k => hZ.1 1 (Nat.le_refl _) k)) (cr_nf_start cr_RF 5 (fun k => hZ.no (by decide +kernel) k)) ?_
  show cr_V Γ 0 [.ref 1] [] (cr_nf I cr_I0 0 1 [0, 0, 0, 0, 0] 2) (cr_nf R cr_RF none 1 [none, none, none, none, none] 2) 2
  refine cr_aload_n h (j := 0) rfl rfl dX7_init_0 ?_
  refine cr_objI h wm_X7_3 wv_objectInit cr_oc (Nat.le_of_ble_eq_true rfl) ⟨by decide, by decide⟩ dX7_init_1 ?_
  refine cr_aload_n h (j := 0) rfl rfl dX7_init_4 ?_
  refine cr_sipush h (v := (160 : Int32)) (by decide) dX7_init_5 ?_
  refine cr_newa h wA_int (N := 160) (by decide) (by decide) rfl (fun k => hZ.aI (by decide) (Nat.le_refl _)) ⟨⟨by decide, by decide, by decide, by decide⟩, rfl, rfl⟩ dX7_init_8 ?_
  rw [hZ.advI (n := 2) (m := 3) (by decide) (by decide) (by decide +kernel), hZ.advR (n := 2) (m := 3) (by decide) (by decide) (by decide +kernel)]
  show cr_V Γ 10 [.ref 1] [.ref 2, .ref 1] (cr_nf I cr_I0 0 1 [0, 0, 0, 0, 0] 3) (cr_nf R cr_RF none 1 [none, none, none, none, none] 3) 3
  refine cr_putRF h cr_clsX7 (k := 0) (by decide) (by decide) (Or.inr ⟨_, rfl⟩) rfl rfl rfl rfl wf_X7_9 (by decide) (by decide) rfl dX7_init_10 ?_
  unfold cr_nf
  rw [cr_sB_put (by decide)]
  show cr_V Γ 13 [.ref 1] [] (cr_nf I cr_I0 0 1 [0, 0, 0, 0, 0] 3) (cr_nf R cr_RF none 1 [some 2, none, none, none, none] 3) 3
  refine cr_aload_n h (j := 0) rfl rfl dX7_init_13 ?_
  refine cr_iconst h (v := (0 : Int32)) (by decide) dX7_init_14 ?_
  refine cr_putI h cr_clsX7 (k := 1) (by decide) (by decide) rfl rfl rfl wf_X7_15 (by decide) (by decide) rfl dX7_init_15 ?_
  unfold cr_nf
  rw [cr_sB_put (by decide)]
  show cr_V Γ 18 [.ref 1] [] (cr_nf I cr_I0 0 1 [0, 0, 0, 0, 0] 3) (cr_nf R cr_RF none 1 [some 2, none, none, none, none] 3) 3
  refine cr_aload_n h (j := 0) rfl rfl dX7_init_18 ?_
  refine cr_new h cr_clsX6 wl_X7_19 wN_X6 wI_X6 rfl (fun k _ => hZ.aI (by decide) (Nat.le_refl _)) (fun k _ => (hZ.aR (by decide) (Nat.le_refl _)).trans (cr_R0_nil (by decide +kernel))) cr_tf6 ⟨⟨by decide, by decide, by decide, by decide⟩, rfl, rfl⟩ dX7_init_19 ?_
  show cr_V Γ 22 [.ref 1] [.ref 3, .ref 1] (cr_nf I cr_I0 0 1 [0, 0, 0, 0, 0] 3) (cr_nf R cr_RF none 1 [some 2, none, none, none, none] 3) 4
  refine cr_dup h rfl dX7_init_22 ?_
  refine cr_callIN h C_yX6_init_3 cZ_yX6_init rfl rfl (fun U hU => hU.2.1) wv_yX6_init ⟨⟨by decide, by decide⟩, ⟨rfl, rfl⟩, ⟨by decide, by decide, by decide⟩, rfl, rfl⟩ (As := []) (b := 3) rfl (Nat.le_of_ble_eq_true rfl) dX7_init_23 ⟨rfl, (hZ.nf (by decide)), ?_⟩
  rw [cr_nf_sub (by decide) (by decide), cr_nf_sub (by decide) (by decide)]
  show cr_V Γ 26 [.ref 1] [.ref 3, .ref 1] (cr_nf I cr_I0 0 1 [0, 0, 0, 0, 0] 27) (cr_nf R cr_RF none 1 [some 2, none, none, none, none] 27) 27
  refine cr_putR h cr_clsX7 (k := 2) (by decide) (by decide) (Or.inl ⟨_, rfl⟩) rfl rfl wf_X7_22 (by decide) (by decide) rfl dX7_init_26 ?_
  unfold cr_nf
  rw [cr_sB_put (by decide)]
  show cr_V Γ 29 [.ref 1] [] (cr_nf I cr_I0 0 1 [0, 0, 0, 0, 0] 27) (cr_nf R cr_RF none 1 [some 2, none, some 3, none, none] 27) 27
  refine cr_aload_n h (j := 0) rfl rfl dX7_init_29 ?_
  refine cr_iconst h (v := (0 : Int32)) (by decide) dX7_init_30 ?_
  refine cr_putI h cr_clsX7 (k := 3) (by decide) (by decide) rfl rfl rfl wf_X7_26 (by decide) (by decide) rfl dX7_init_31 ?_
  unfold cr_nf
  rw [cr_sB_put (by decide)]
  show cr_V Γ 34 [.ref 1] [] (cr_nf I cr_I0 0 1 [0, 0, 0, 0, 0] 27) (cr_nf R cr_RF none 1 [some 2, none, some 3, none, none] 27) 27
  refine cr_aload_n h (j := 0) rfl rfl dX7_init_34 ?_
  refine cr_iconst h (v := (0 : Int32)) (by decide) dX7_init_35 ?_
  refine cr_putI h cr_clsX7 (k := 4) (by decide) (by decide) rfl rfl rfl wf_X7_29 (by decide) (by decide) rfl dX7_init_36 ?_
  unfold cr_nf
  rw [cr_sB_put (by decide)]
  show cr_V Γ 39 [.ref 1] [] (cr_nf I cr_I0 0 1 [0, 0, 0, 0, 0] 27) (cr_nf R cr_RF none 1 [some 2, none, some 3, none, none] 27) 27
  rw [cr_nf_end (by decide) (cr_I0_of (by decide +kernel)), cr_nf_end (by decide) (cr_RF_of (by decide +kernel))]
  exact cr_vret h rfl rfl dX7_init_39 hK
abbrev T_yX6_init_30 : cr_T := fun vs I R K => vs = [.ref 30] ∧ cr_Z0 30 I R ∧ K none (cr_mix I 30 54 cr_I0) (cr_mix R 30 54 cr_RF)
theorem C_yX6_init_30 : cr_C yX6_init cX6_init 1 none (cr_rmC 1 20 31 54) 31 54 T_yX6_init_30 := by
  refine cr_C.of (by decide +kernel) (fun vs I R K hT => by obtain ⟨rfl, -, -⟩ := hT; exact Nat.le_of_ble_eq_true rfl) (fun Γ K h vs I R hT => ?_)
  obtain ⟨rfl, hZ, hK⟩ := hT
  show cr_V Γ 0 [.ref 30] [] I R 31
  refine cr_V_eq (cr_nf_start cr_I0 6 (fun k => hZ.1 30 (Nat.le_refl _) k)) (cr_nf_start cr_RF 6 (fun k => hZ.no (by decide +kernel) k)) ?_
  show cr_V Γ 0 [.ref 30] [] (cr_nf I cr_I0 0 30 [0, 0, 0, 0, 0, 0] 31) (cr_nf R cr_RF none 30 [none, none, none, none, none, none] 31) 31
  refine cr_aload_n h (j := 0) rfl rfl dX6_init_0 ?_
  refine cr_objI h wm_X6_3 wv_objectInit cr_oc (Nat.le_of_ble_eq_true rfl) ⟨by decide, by decide⟩ dX6_init_1 ?_
  refine cr_aload_n h (j := 0) rfl rfl dX6_init_4 ?_
  refine cr_iconst h (v := (0 : Int32)) (by decide) dX6_init_5 ?_
  refine cr_putI h cr_clsX6 (k := 0) (by decide) (by decide) rfl rfl rfl wf_X6_9 (by decide) (by decide) rfl dX6_init_6 ?_
  unfold cr_nf
  rw [cr_sB_put (by decide)]
  show cr_V Γ 9 [.ref 30] [] (cr_nf I cr_I0 0 30 [0, 0, 0, 0, 0, 0] 31) (cr_nf R cr_RF none 30 [none, none, none, none, none, none] 31) 31
  refine cr_aload_n h (j := 0) rfl rfl dX6_init_9 ?_
  refine cr_bipush h (v := (6 : Int32)) (by decide) dX6_init_10 ?_
  refine cr_newa h wA_int (N := 6) (by decide) (by decide) rfl (fun k => hZ.aI (by decide) (Nat.le_refl _)) ⟨⟨by decide, by decide, by decide, by decide⟩, rfl, rfl⟩ dX6_init_12 ?_
  rw [hZ.advI (n := 31) (m := 32) (by decide) (by decide) (by decide +kernel), hZ.advR (n := 31) (m := 32) (by decide) (by decide) (by decide +kernel)]
  show cr_V Γ 14 [.ref 30] [.ref 31, .ref 30] (cr_nf I cr_I0 0 30 [0, 0, 0, 0, 0, 0] 32) (cr_nf R cr_RF none 30 [none, none, none, none, none, none] 32) 32
  refine cr_putRF h cr_clsX6 (k := 1) (by decide) (by decide) (Or.inr ⟨_, rfl⟩) rfl rfl rfl rfl wf_X6_15 (by decide) (by decide) rfl dX6_init_14 ?_
  unfold cr_nf
  rw [cr_sB_put (by decide)]
  show cr_V Γ 17 [.ref 30] [] (cr_nf I cr_I0 0 30 [0, 0, 0, 0, 0, 0] 32) (cr_nf R cr_RF none 30 [none, some 31, none, none, none, none] 32) 32
  refine cr_aload_n h (j := 0) rfl rfl dX6_init_17 ?_
  refine cr_bipush h (v := (6 : Int32)) (by decide) dX6_init_18 ?_
  refine cr_newa h wA_int (N := 6) (by decide) (by decide) rfl (fun k => hZ.aI (by decide) (Nat.le_refl _)) ⟨⟨by decide, by decide, by decide, by decide⟩, rfl, rfl⟩ dX6_init_20 ?_
  rw [hZ.advI (n := 32) (m := 33) (by decide) (by decide) (by decide +kernel), hZ.advR (n := 32) (m := 33) (by decide) (by decide) (by decide +kernel)]
  show cr_V Γ 22 [.ref 30] [.ref 32, .ref 30] (cr_nf I cr_I0 0 30 [0, 0, 0, 0, 0, 0] 33) (cr_nf R cr_RF none 30 [none, some 31, none, none, none, none] 33) 33
  refine cr_putRF h cr_clsX6 (k := 2) (by decide) (by decide) (Or.inr ⟨_, rfl⟩) rfl rfl rfl rfl wf_X6_19 (by decide) (by decide) rfl dX6_init_22 ?_
  unfold cr_nf
  rw [cr_sB_put (by decide)]
  show cr_V Γ 25 [.ref 30] [] (cr_nf I cr_I0 0 30 [0, 0, 0, 0, 0, 0] 33) (cr_nf R cr_RF none 30 [none, some 31, some 32, none, none, none] 33) 33
  refine cr_aload_n h (j := 0) rfl rfl dX6_init_25 ?_
  refine cr_bipush h (v := (6 : Int32)) (by decide) dX6_init_26 ?_
  refine cr_iconst h (v := (4 : Int32)) (by decide) dX6_init_28 ?_
  refine cr_mna h wl_X6_22 wA_int (N := 6) (M := 4) (by decide) (by decide) (by decide) (by decide) rfl (by decide +kernel) (fun j hj => (hZ.aR (by decide) (Nat.le_refl _)).trans ((show ∀ j, j < 6 → cr_R0 33 j = some (33 + 1 + j) by decide +kernel) j hj)) (fun j _ k => hZ.aI (by decide) (by omega)) ⟨⟨by decide, by decide, by decide, by decide⟩, rfl, rfl⟩ dX6_init_29 ?_
  rw [hZ.advI (n := 33) (m := 40) (by decide) (by decide) (by decide +kernel), hZ.advR (n := 33) (m := 40) (by decide) (by decide) (by decide +kernel)]
  show cr_V Γ 33 [.ref 30] [.ref 33, .ref 30] (cr_nf I cr_I0 0 30 [0, 0, 0, 0, 0, 0] 40) (cr_nf R cr_RF none 30 [none, some 31, some 32, none, none, none] 40) 40
  refine cr_putRF h cr_clsX6 (k := 3) (by decide) (by decide) (Or.inr ⟨_, rfl⟩) rfl rfl rfl rfl wf_X6_24 (by decide) (by decide) rfl dX6_init_33 ?_
  unfold cr_nf
  rw [cr_sB_put (by decide)]
  show cr_V Γ 36 [.ref 30] [] (cr_nf I cr_I0 0 30 [0, 0, 0, 0, 0, 0] 40) (cr_nf R cr_RF none 30 [none, some 31, some 32, some 33, none, none] 40) 40
  refine cr_aload_n h (j := 0) rfl rfl dX6_init_36 ?_
  refine cr_bipush h (v := (6 : Int32)) (by decide) dX6_init_37 ?_
  refine cr_iconst h (v := (4 : Int32)) (by decide) dX6_init_39 ?_
  refine cr_mna h wl_X6_22 wA_int (N := 6) (M := 4) (by decide) (by decide) (by decide) (by decide) rfl (by decide +kernel) (fun j hj => (hZ.aR (by decide) (Nat.le_refl _)).trans ((show ∀ j, j < 6 → cr_R0 40 j = some (40 + 1 + j) by decide +kernel) j hj)) (fun j _ k => hZ.aI (by decide) (by omega)) ⟨⟨by decide, by decide, by decide, by decide⟩, rfl, rfl⟩ dX6_init_40 ?_
  rw [hZ.advI (n := 40) (m := 47) (by decide) (by decide) (by decide +kernel), hZ.advR (n := 40) (m := 47) (by decide) (by decide) (by decide +kernel)]
  show cr_V Γ 44 [.ref 30] [.ref 40, .ref 30] (cr_nf I cr_I0 0 30 [0, 0, 0, 0, 0, 0] 47) (cr_nf R cr_RF none 30 [none, some 31, some 32, some 33, none, none] 47) 47
  refine cr_putRF h cr_clsX6 (k := 4) (by decide) (by decide) (Or.inr ⟨_, rfl⟩) rfl rfl rfl rfl wf_X6_27 (by decide) (by decide) rfl dX6_init_44 ?_
  unfold cr_nf
  rw [cr_sB_put (by decide)]
  show cr_V Γ 47 [.ref 30] [] (cr_nf I cr_I0 0 30 [0, 0, 0, 0, 0, 0] 47) (cr_nf R cr_RF none 30 [none, some 31, some 32, some 33, some 40, none] 47) 47
  refine cr_aload_n h (j := 0) rfl rfl dX6_init_47 ?_
  refine cr_bipush h (v := (6 : Int32)) (by decide) dX6_init_48 ?_
  refine cr_iconst h (v := (4 : Int32)) (by decide) dX6_init_50 ?_
  refine cr_mna h wl_X6_22 wA_int (N := 6) (M := 4) (by decide) (by decide) (by decide) (by decide) rfl (by decide +kernel) (fun j hj => (hZ.aR (by decide) (Nat.le_refl _)).trans ((show ∀ j, j < 6 → cr_R0 47 j = some (47 + 1 + j) by decide +kernel) j hj)) (fun j _ k => hZ.aI (by decide) (by omega)) ⟨⟨by decide, by decide, by decide, by decide⟩, rfl, rfl⟩ dX6_init_51 ?_
  rw [hZ.advI (n := 47) (m := 54) (by decide) (by decide) (by decide +kernel), hZ.advR (n := 47) (m := 54) (by decide) (by decide) (by decide +kernel)]
  show cr_V Γ 55 [.ref 30] [.ref 47, .ref 30] (cr_nf I cr_I0 0 30 [0, 0, 0, 0, 0, 0] 54) (cr_nf R cr_RF none 30 [none, some 31, some 32, some 33, some 40, none] 54) 54
  refine cr_putRF h cr_clsX6 (k := 5) (by decide) (by decide) (Or.inr ⟨_, rfl⟩) rfl rfl rfl rfl wf_X6_30 (by decide) (by decide) rfl dX6_init_55 ?_
  unfold cr_nf
  rw [cr_sB_put (by decide)]
  show cr_V Γ 58 [.ref 30] [] (cr_nf I cr_I0 0 30 [0, 0, 0, 0, 0, 0] 54) (cr_nf R cr_RF none 30 [none, some 31, some 32, some 33, some 40, some 47] 54) 54
  rw [cr_nf_end (by decide) (cr_I0_of (by decide +kernel)), cr_nf_end (by decide) (cr_RF_of (by decide +kernel))]
  exact cr_vret h rfl rfl dX6_init_58 hK
abbrev T_yX2_init_29 : cr_T := fun vs I R K => vs = [.ref 29] ∧ cr_Z0 29 I R ∧ K none (cr_mix I 29 54 cr_I0) (cr_mix R 29 54 cr_RF)
theorem C_yX2_init_29 : cr_C yX2_init cX2_init 1 none (cr_rmC 2 40 30 54) 30 54 T_yX2_init_29 := by
  refine cr_C.of (by decide +kernel) (fun vs I R K hT => by obtain ⟨rfl, -, -⟩ := hT; exact Nat.le_of_ble_eq_true rfl) (fun Γ K h vs I R hT => ?_)
  obtain ⟨rfl, hZ, hK⟩ := hT
  show cr_V Γ 0 [.ref 29] [] I R 30
  refine cr_V_eq (cr_nf_start cr_I0 5 (fun k => hZ.1 29 (Nat.le_refl _) k)) (cr_nf_start cr_RF 5 (fun k => hZ.no (by decide +kernel) k)) ?_
  show cr_V Γ 0 [.ref 29] [] (cr_nf I cr_I0 0 29 [0, 0, 0, 0, 0] 30) (cr_nf R cr_RF none 29 [none, none, none, none, none] 30) 30
  refine cr_aload_n h (j := 0) rfl rfl dX2_init_0 ?_
  refine cr_objI h wm_X2_1 wv_objectInit cr_oc (Nat.le_of_ble_eq_true rfl) ⟨by decide, by decide⟩ dX2_init_1 ?_
  refine cr_aload_n h (j := 0) rfl rfl dX2_init_4 ?_
  refine cr_iconst h (v := (1 : Int32)) (by decide) dX2_init_5 ?_
  refine cr_putI h cr_clsX2 (k := 0) (by decide) (by decide) rfl rfl rfl wf_X2_7 (by decide) (by decide) rfl dX2_init_6 ?_
  unfold cr_nf
  rw [cr_sB_put (by decide)]
  show cr_V Γ 9 [.ref 29] [] (cr_nf I cr_I0 0 29 [1, 0, 0, 0, 0] 30) (cr_nf R cr_RF none 29 [none, none, none, none, none] 30) 30
  refine cr_aload_n h (j := 0) rfl rfl dX2_init_9 ?_
  refine cr_iconst h (v := (4 : Int32)) (by decide) dX2_init_10 ?_
  refine cr_putI h cr_clsX2 (k := 1) (by decide) (by decide) rfl rfl rfl wf_X2_13 (by decide) (by decide) rfl dX2_init_11 ?_
  unfold cr_nf
  rw [cr_sB_put (by decide)]
  show cr_V Γ 14 [.ref 29] [] (cr_nf I cr_I0 0 29 [1, 4, 0, 0, 0] 30) (cr_nf R cr_RF none 29 [none, none, none, none, none] 30) 30
  refine cr_aload_n h (j := 0) rfl rfl dX2_init_14 ?_
  refine cr_iconst h (v := (2 : Int32)) (by decide) dX2_init_15 ?_
  refine cr_putI h cr_clsX2 (k := 2) (by decide) (by decide) rfl rfl rfl wf_X2_16 (by decide) (by decide) rfl dX2_init_16 ?_
  unfold cr_nf
  rw [cr_sB_put (by decide)]
  show cr_V Γ 19 [.ref 29] [] (cr_nf I cr_I0 0 29 [1, 4, 2, 0, 0] 30) (cr_nf R cr_RF none 29 [none, none, none, none, none] 30) 30
  refine cr_aload_n h (j := 0) rfl rfl dX2_init_19 ?_
  refine cr_iconst h (v := (0 : Int32)) (by decide) dX2_init_20 ?_
  refine cr_putI h cr_clsX2 (k := 3) (by decide) (by decide) rfl rfl rfl wf_X2_19 (by decide) (by decide) rfl dX2_init_21 ?_
  unfold cr_nf
  rw [cr_sB_put (by decide)]
  show cr_V Γ 24 [.ref 29] [] (cr_nf I cr_I0 0 29 [1, 4, 2, 0, 0] 30) (cr_nf R cr_RF none 29 [none, none, none, none, none] 30) 30
  refine cr_aload_n h (j := 0) rfl rfl dX2_init_24 ?_
  refine cr_new h cr_clsX6 wl_X2_22 wN_X6 wI_X6 rfl (fun k _ => hZ.aI (by decide) (Nat.le_refl _)) (fun k _ => (hZ.aR (by decide) (Nat.le_refl _)).trans (cr_R0_nil (by decide +kernel))) cr_tf6 ⟨⟨by decide, by decide, by decide, by decide⟩, rfl, rfl⟩ dX2_init_25 ?_
  show cr_V Γ 28 [.ref 29] [.ref 30, .ref 29] (cr_nf I cr_I0 0 29 [1, 4, 2, 0, 0] 30) (cr_nf R cr_RF none 29 [none, none, none, none, none] 30) 31
  refine cr_dup h rfl dX2_init_28 ?_
  refine cr_callIN h C_yX6_init_30 cZ_yX6_init rfl rfl (fun U hU => hU.2.2.2.2.1) wv_yX6_init ⟨⟨by decide, by decide⟩, ⟨rfl, rfl⟩, ⟨by decide, by decide, by decide⟩, rfl, rfl⟩ (As := []) (b := 30) rfl (Nat.le_of_ble_eq_true rfl) dX2_init_29 ⟨rfl, (hZ.nf (by decide)), ?_⟩
  rw [cr_nf_sub (by decide) (by decide), cr_nf_sub (by decide) (by decide)]
  show cr_V Γ 32 [.ref 29] [.ref 30, .ref 29] (cr_nf I cr_I0 0 29 [1, 4, 2, 0, 0] 54) (cr_nf R cr_RF none 29 [none, none, none, none, none] 54) 54
  refine cr_putR h cr_clsX2 (k := 4) (by decide) (by decide) (Or.inl ⟨_, rfl⟩) rfl rfl wf_X2_25 (by decide) (by decide) rfl dX2_init_32 ?_
  unfold cr_nf
  rw [cr_sB_put (by decide)]
  show cr_V Γ 35 [.ref 29] [] (cr_nf I cr_I0 0 29 [1, 4, 2, 0, 0] 54) (cr_nf R cr_RF none 29 [none, none, none, none, some 30] 54) 54
  rw [cr_nf_end (by decide) (cr_I0_of (by decide +kernel)), cr_nf_end (by decide) (cr_RF_of (by decide +kernel))]
  exact cr_vret h rfl rfl dX2_init_35 hK
abbrev T_yX6_init_55 : cr_T := fun vs I R K => vs = [.ref 55] ∧ cr_Z0 55 I R ∧ K none (cr_mix I 55 79 cr_I0) (cr_mix R 55 79 cr_RF)
theorem C_yX6_init_55 : cr_C yX6_init cX6_init 1 none (cr_rmC 1 20 56 79) 56 79 T_yX6_init_55 := by
  refine cr_C.of (by decide +kernel) (fun vs I R K hT => by obtain ⟨rfl, -, -⟩ := hT; exact Nat.le_of_ble_eq_true rfl) (fun Γ K h vs I R hT => ?_)
  obtain ⟨rfl, hZ, hK⟩ := hT
  show cr_V Γ 0 [.ref 55] [] I R 56
  refine cr_V_eq (cr_nf_start cr_I0 6 (fun k => hZ.1 55 (Nat.le_refl _) k)) (cr_nf_start cr_RF 6 (fun k => hZ.no (by decide +kernel) k)) ?_
  show cr_V Γ 0 [.ref 55] [] (cr_nf I cr_I0 0 55 [0, 0, 0, 0, 0, 0] 56) (cr_nf R cr_RF none 55 [none, none, none, none, none, none] 56) 56
  refine cr_aload_n h (j := 0) rfl rfl dX6_init_0 ?_
  refine cr_objI h wm_X6_3 wv_objectInit cr_oc (Nat.le_of_ble_eq_true rfl) ⟨by decide, by decide⟩ dX6_init_1 ?_
  refine cr_aload_n h (j := 0) rfl rfl dX6_init_4 ?_
  refine cr_iconst h (v := (0 : Int32)) (by decide) dX6_init_5 ?_
  refine cr_putI h cr_clsX6 (k := 0) (by decide) (by decide) rfl rfl rfl wf_X6_9 (by decide) (by decide) rfl dX6_init_6 ?_
  unfold cr_nf
  rw [cr_sB_put (by decide)]
  show cr_V Γ 9 [.ref 55] [] (cr_nf I cr_I0 0 55 [0, 0, 0, 0, 0, 0] 56) (cr_nf R cr_RF none 55 [none, none, none, none, none, none] 56) 56
  refine cr_aload_n h (j := 0) rfl rfl dX6_init_9 ?_
  refine cr_bipush h (v := (6 : Int32)) (by decide) dX6_init_10 ?_
  refine cr_newa h wA_int (N := 6) (by decide) (by decide) rfl (fun k => hZ.aI (by decide) (Nat.le_refl _)) ⟨⟨by decide, by decide, by decide, by decide⟩, rfl, rfl⟩ dX6_init_12 ?_
  rw [hZ.advI (n := 56) (m := 57) (by decide) (by decide) (by decide +kernel), hZ.advR (n := 56) (m := 57) (by decide) (by decide) (by decide +kernel)]
  show cr_V Γ 14 [.ref 55] [.ref 56, .ref 55] (cr_nf I cr_I0 0 55 [0, 0, 0, 0, 0, 0] 57) (cr_nf R cr_RF none 55 [none, none, none, none, none, none] 57) 57
  refine cr_putRF h cr_clsX6 (k := 1) (by decide) (by decide) (Or.inr ⟨_, rfl⟩) rfl rfl rfl rfl wf_X6_15 (by decide) (by decide) rfl dX6_init_14 ?_
  unfold cr_nf
  rw [cr_sB_put (by decide)]
  show cr_V Γ 17 [.ref 55] [] (cr_nf I cr_I0 0 55 [0, 0, 0, 0, 0, 0] 57) (cr_nf R cr_RF none 55 [none, some 56, none, none, none, none] 57) 57
  refine cr_aload_n h (j := 0) rfl rfl dX6_init_17 ?_
  refine cr_bipush h (v := (6 : Int32)) (by decide) dX6_init_18 ?_
  refine cr_newa h wA_int (N := 6) (by decide) (by decide) rfl (fun k => hZ.aI (by decide) (Nat.le_refl _)) ⟨⟨by decide, by decide, by decide, by decide⟩, rfl, rfl⟩ dX6_init_20 ?_
  rw [hZ.advI (n := 57) (m := 58) (by decide) (by decide) (by decide +kernel), hZ.advR (n := 57) (m := 58) (by decide) (by decide) (by decide +kernel)]
  show cr_V Γ 22 [.ref 55] [.ref 57, .ref 55] (cr_nf I cr_I0 0 55 [0, 0, 0, 0, 0, 0] 58) (cr_nf R cr_RF none 55 [none, some 56, none, none, none, none] 58) 58
  refine cr_putRF h cr_clsX6 (k := 2) (by decide) (by decide) (Or.inr ⟨_, rfl⟩) rfl rfl rfl rfl wf_X6_19 (by decide) (by decide) rfl dX6_init_22 ?_
  unfold cr_nf
  rw [cr_sB_put (by decide)]
  show cr_V Γ 25 [.ref 55] [] (cr_nf I cr_I0 0 55 [0, 0, 0, 0, 0, 0] 58) (cr_nf R cr_RF none 55 [none, some 56, some 57, none, none, none] 58) 58
  refine cr_aload_n h (j := 0) rfl rfl dX6_init_25 ?_
  refine cr_bipush h (v := (6 : Int32)) (by decide) dX6_init_26 ?_
  refine cr_iconst h (v := (4 : Int32)) (by decide) dX6_init_28 ?_
  refine cr_mna h wl_X6_22 wA_int (N := 6) (M := 4) (by decide) (by decide) (by decide) (by decide) rfl (by decide +kernel) (fun j hj => (hZ.aR (by decide) (Nat.le_refl _)).trans ((show ∀ j, j < 6 → cr_R0 58 j = some (58 + 1 + j) by decide +kernel) j hj)) (fun j _ k => hZ.aI (by decide) (by omega)) ⟨⟨by decide, by decide, by decide, by decide⟩, rfl, rfl⟩ dX6_init_29 ?_
  rw [hZ.advI (n := 58) (m := 65) (by decide) (by decide) (by decide +kernel), hZ.advR (n := 58) (m := 65) (by decide) (by decide) (by decide +kernel)]
  show cr_V Γ 33 [.ref 55] [.ref 58, .ref 55] (cr_nf I cr_I0 0 55 [0, 0, 0, 0, 0, 0] 65) (cr_nf R cr_RF none 55 [none, some 56, some 57, none, none, none] 65) 65
  refine cr_putRF h cr_clsX6 (k := 3) (by decide) (by decide) (Or.inr ⟨_, rfl⟩) rfl rfl rfl rfl wf_X6_24 (by decide) (by decide) rfl dX6_init_33 ?_
  unfold cr_nf
  rw [cr_sB_put (by decide)]
  show cr_V Γ 36 [.ref 55] [] (cr_nf I cr_I0 0 55 [0, 0, 0, 0, 0, 0] 65) (cr_nf R cr_RF none 55 [none, some 56, some 57, some 58, none, none] 65) 65
  refine cr_aload_n h (j := 0) rfl rfl dX6_init_36 ?_
  refine cr_bipush h (v := (6 : Int32)) (by decide) dX6_init_37 ?_
  refine cr_iconst h (v := (4 : Int32)) (by decide) dX6_init_39 ?_
  refine cr_mna h wl_X6_22 wA_int (N := 6) (M := 4) (by decide) (by decide) (by decide) (by decide) rfl (by decide +kernel) (fun j hj => (hZ.aR (by decide) (Nat.le_refl _)).trans ((show ∀ j, j < 6 → cr_R0 65 j = some (65 + 1 + j) by decide +kernel) j hj)) (fun j _ k => hZ.aI (by decide) (by omega)) ⟨⟨by decide, by decide, by decide, by decide⟩, rfl, rfl⟩ dX6_init_40 ?_
  rw [hZ.advI (n := 65) (m := 72) (by decide) (by decide) (by decide +kernel), hZ.advR (n := 65) (m := 72) (by decide) (by decide) (by decide +kernel)]
  show cr_V Γ 44 [.ref 55] [.ref 65, .ref 55] (cr_nf I cr_I0 0 55 [0, 0, 0, 0, 0, 0] 72) (cr_nf R cr_RF none 55 [none, some 56, some 57, some 58, none, none] 72) 72
  refine cr_putRF h cr_clsX6 (k := 4) (by decide) (by decide) (Or.inr ⟨_, rfl⟩) rfl rfl rfl rfl wf_X6_27 (by decide) (by decide) rfl dX6_init_44 ?_
  unfold cr_nf
  rw [cr_sB_put (by decide)]
  show cr_V Γ 47 [.ref 55] [] (cr_nf I cr_I0 0 55 [0, 0, 0, 0, 0, 0] 72) (cr_nf R cr_RF none 55 [none, some 56, some 57, some 58, some 65, none] 72) 72
  refine cr_aload_n h (j := 0) rfl rfl dX6_init_47 ?_
  refine cr_bipush h (v := (6 : Int32)) (by decide) dX6_init_48 ?_
  refine cr_iconst h (v := (4 : Int32)) (by decide) dX6_init_50 ?_
  refine cr_mna h wl_X6_22 wA_int (N := 6) (M := 4) (by decide) (by decide) (by decide) (by decide) rfl (by decide +kernel) (fun j hj => (hZ.aR (by decide) (Nat.le_refl _)).trans ((show ∀ j, j < 6 → cr_R0 72 j = some (72 + 1 + j) by decide +kernel) j hj)) (fun j _ k => hZ.aI (by decide) (by omega)) ⟨⟨by decide, by decide, by decide, by decide⟩, rfl, rfl⟩ dX6_init_51 ?_
  rw [hZ.advI (n := 72) (m := 79) (by decide) (by decide) (by decide +kernel), hZ.advR (n := 72) (m := 79) (by decide) (by decide) (by decide +kernel)]
  show cr_V Γ 55 [.ref 55] [.ref 72, .ref 55] (cr_nf I cr_I0 0 55 [0, 0, 0, 0, 0, 0] 79) (cr_nf R cr_RF none 55 [none, some 56, some 57, some 58, some 65, none] 79) 79
  refine cr_putRF h cr_clsX6 (k := 5) (by decide) (by decide) (Or.inr ⟨_, rfl⟩) rfl rfl rfl rfl wf_X6_30 (by decide) (by decide) rfl dX6_init_55 ?_
  unfold cr_nf
  rw [cr_sB_put (by decide)]
  show cr_V Γ 58 [.ref 55] [] (cr_nf I cr_I0 0 55 [0, 0, 0, 0, 0, 0] 79) (cr_nf R cr_RF none 55 [none, some 56, some 57, some 58, some 65, some 72] 79) 79
  rw [cr_nf_end (by decide) (cr_I0_of (by decide +kernel)), cr_nf_end (by decide) (cr_RF_of (by decide +kernel))]
  exact cr_vret h rfl rfl dX6_init_58 hK
abbrev T_yX2_init_54 : cr_T := fun vs I R K => vs = [.ref 54] ∧ cr_Z0 54 I R ∧ K none (cr_mix I 54 79 cr_I0) (cr_mix R 54 79 cr_RF)
theorem C_yX2_init_54 : cr_C yX2_init cX2_init 1 none (cr_rmC 2 40 55 79) 55 79 T_yX2_init_54 := by
  refine cr_C.of (by decide +kernel) (fun vs I R K hT => by obtain ⟨rfl, -, -⟩ := hT; exact Nat.le_of_ble_eq_true rfl) (fun Γ K h vs I R hT => ?_)
  obtain ⟨rfl, hZ, hK⟩ := hT
  show cr_V Γ 0 [.ref 54] [] I R 55
  refine cr_V_eq (cr_nf_start cr_I0 5 (fun k => hZ.1 54 (Nat.le_refl _) k)) (cr_nf_start cr_RF 5 (fun k => hZ.no (by decide +kernel) k)) ?_
  show cr_V Γ 0 [.ref 54] [] (cr_nf I cr_I0 0 54 [0, 0, 0, 0, 0] 55) (cr_nf R cr_RF none 54 [none, none, none, none, none] 55) 55
  refine cr_aload_n h (j := 0) rfl rfl dX2_init_0 ?_
  refine cr_objI h wm_X2_1 wv_objectInit cr_oc (Nat.le_of_ble_eq_true rfl) ⟨by decide, by decide⟩ dX2_init_1 ?_
  refine cr_aload_n h (j := 0) rfl rfl dX2_init_4 ?_
  refine cr_iconst h (v := (1 : Int32)) (by decide) dX2_init_5 ?_
  refine cr_putI h cr_clsX2 (k := 0) (by decide) (by decide) rfl rfl rfl wf_X2_7 (by decide) (by decide) rfl dX2_init_6 ?_
  unfold cr_nf
  rw [cr_sB_put (by decide)]
  show cr_V Γ 9 [.ref 54] [] (cr_nf I cr_I0 0 54 [1, 0, 0, 0, 0] 55) (cr_nf R cr_RF none 54 [none, none, none, none, none] 55) 55
  refine cr_aload_n h (j := 0) rfl rfl dX2_init_9 ?_
  refine cr_iconst h (v := (4 : Int32)) (by decide) dX2_init_10 ?_
  refine cr_putI h cr_clsX2 (k := 1) (by decide) (by decide) rfl rfl rfl wf_X2_13 (by decide) (by decide) rfl dX2_init_11 ?_
  unfold cr_nf
  rw [cr_sB_put (by decide)]
  show cr_V Γ 14 [.ref 54] [] (cr_nf I cr_I0 0 54 [1, 4, 0, 0, 0] 55) (cr_nf R cr_RF none 54 [none, none, none, none, none] 55) 55
  refine cr_aload_n h (j := 0) rfl rfl dX2_init_14 ?_
  refine cr_iconst h (v := (2 : Int32)) (by decide) dX2_init_15 ?_
  refine cr_putI h cr_clsX2 (k := 2) (by decide) (by decide) rfl rfl rfl wf_X2_16 (by decide) (by decide) rfl dX2_init_16 ?_
  unfold cr_nf
  rw [cr_sB_put (by decide)]
  show cr_V Γ 19 [.ref 54] [] (cr_nf I cr_I0 0 54 [1, 4, 2, 0, 0] 55) (cr_nf R cr_RF none 54 [none, none, none, none, none] 55) 55
  refine cr_aload_n h (j := 0) rfl rfl dX2_init_19 ?_
  refine cr_iconst h (v := (0 : Int32)) (by decide) dX2_init_20 ?_
  refine cr_putI h cr_clsX2 (k := 3) (by decide) (by decide) rfl rfl rfl wf_X2_19 (by decide) (by decide) rfl dX2_init_21 ?_
  unfold cr_nf
  rw [cr_sB_put (by decide)]
  show cr_V Γ 24 [.ref 54] [] (cr_nf I cr_I0 0 54 [1, 4, 2, 0, 0] 55) (cr_nf R cr_RF none 54 [none, none, none, none, none] 55) 55
  refine cr_aload_n h (j := 0) rfl rfl dX2_init_24 ?_
  refine cr_new h cr_clsX6 wl_X2_22 wN_X6 wI_X6 rfl (fun k _ => hZ.aI (by decide) (Nat.le_refl _)) (fun k _ => (hZ.aR (by decide) (Nat.le_refl _)).trans (cr_R0_nil (by decide +kernel))) cr_tf6 ⟨⟨by decide, by decide, by decide, by decide⟩, rfl, rfl⟩ dX2_init_25 ?_
  show cr_V Γ 28 [.ref 54] [.ref 55, .ref 54] (cr_nf I cr_I0 0 54 [1, 4, 2, 0, 0] 55) (cr_nf R cr_RF none 54 [none, none, none, none, none] 55) 56
  refine cr_dup h rfl dX2_init_28 ?_
  refine cr_callIN h C_yX6_init_55 cZ_yX6_init rfl rfl (fun U hU => hU.2.2.2.2.1) wv_yX6_init ⟨⟨by decide, by decide⟩, ⟨rfl, rfl⟩, ⟨by decide, by decide, by decide⟩, rfl, rfl⟩ (As := []) (b := 55) rfl (Nat.le_of_ble_eq_true rfl) dX2_init_29 ⟨rfl, (hZ.nf (by decide)), ?_⟩
  rw [cr_nf_sub (by decide) (by decide), cr_nf_sub (by decide) (by decide)]
  show cr_V Γ 32 [.ref 54] [.ref 55, .ref 54] (cr_nf I cr_I0 0 54 [1, 4, 2, 0, 0] 79) (cr_nf R cr_RF none 54 [none, none, none, none, none] 79) 79
  refine cr_putR h cr_clsX2 (k := 4) (by decide) (by decide) (Or.inl ⟨_, rfl⟩) rfl rfl wf_X2_25 (by decide) (by decide) rfl dX2_init_32 ?_
  unfold cr_nf
  rw [cr_sB_put (by decide)]
  show cr_V Γ 35 [.ref 54] [] (cr_nf I cr_I0 0 54 [1, 4, 2, 0, 0] 79) (cr_nf R cr_RF none 54 [none, none, none, none, some 55] 79) 79
  rw [cr_nf_end (by decide) (cr_I0_of (by decide +kernel)), cr_nf_end (by decide) (cr_RF_of (by decide +kernel))]
  exact cr_vret h rfl rfl dX2_init_35 hK
abbrev T_yX6_init_80 : cr_T := fun vs I R K => vs = [.ref 80] ∧ cr_Z0 80 I R ∧ K none (cr_mix I 80 104 cr_I0) (cr_mix R 80 104 cr_RF)
theorem C_yX6_init_80 : cr_C yX6_init cX6_init 1 none (cr_rmC 1 20 81 104) 81 104 T_yX6_init_80 := by
  refine cr_C.of (by decide +kernel) (fun vs I R K hT => by obtain ⟨rfl, -, -⟩ := hT; exact Nat.le_of_ble_eq_true rfl) (fun Γ K h vs I R hT => ?_)
  obtain ⟨rfl, hZ, hK⟩ := hT
  show cr_V Γ 0 [.ref 80] [] I R 81
  refine cr_V_eq (cr_nf_start cr_I0 6 (fun k => hZ.1 80 (Nat.le_refl _) k)) (cr_nf_start cr_RF 6 (fun k => hZ.no (by decide +kernel) k)) ?_
  show cr_V Γ 0 [.ref 80] [] (cr_nf I cr_I0 0 80 [0, 0, 0, 0, 0, 0] 81) (cr_nf R cr_RF none 80 [none, none, none, none, none, none] 81) 81
  refine cr_aload_n h (j := 0) rfl rfl dX6_init_0 ?_
  refine cr_objI h wm_X6_3 wv_objectInit cr_oc (Nat.le_of_ble_eq_true rfl) ⟨by decide, by decide⟩ dX6_init_1 ?_
  refine cr_aload_n h (j := 0) rfl rfl dX6_init_4 ?_
  refine cr_iconst h (v := (0 : Int32)) (by decide) dX6_init_5 ?_
  refine cr_putI h cr_clsX6 (k := 0) (by decide) (by decide) rfl rfl rfl wf_X6_9 (by decide) (by decide) rfl dX6_init_6 ?_
  unfold cr_nf
  rw [cr_sB_put (by decide)]
  show cr_V Γ 9 [.ref 80] [] (cr_nf I cr_I0 0 80 [0, 0, 0, 0, 0, 0] 81) (cr_nf R cr_RF none 80 [none, none, none, none, none, none] 81) 81
  refine cr_aload_n h (j := 0) rfl rfl dX6_init_9 ?_
  refine cr_bipush h (v := (6 : Int32)) (by decide) dX6_init_10 ?_
  refine cr_newa h wA_int (N := 6) (by decide) (by decide) rfl (fun k => hZ.aI (by decide) (Nat.le_refl _)) ⟨⟨by decide, by decide, by decide, by decide⟩, rfl, rfl⟩ dX6_init_12 ?_
  rw [hZ.advI (n := 81) (m := 82) (by decide) (by decide) (by decide +kernel), hZ.advR (n := 81) (m := 82) (by decide) (by decide) (by decide +kernel)]
  show cr_V Γ 14 [.ref 80] [.ref 81, .ref 80] (cr_nf I cr_I0 0 80 [0, 0, 0, 0, 0, 0] 82) (cr_nf R cr_RF none 80 [none, none, none, none, none, none] 82) 82
  refine cr_putRF h cr_clsX6 (k := 1) (by decide) (by decide) (Or.inr ⟨_, rfl⟩) rfl rfl rfl rfl wf_X6_15 (by decide) (by decide) rfl dX6_init_14 ?_
  unfold cr_nf
  rw [cr_sB_put (by decide)]
  show cr_V Γ 17 [.ref 80] [] (cr_nf I cr_I0 0 80 [0, 0, 0, 0, 0, 0] 82) (cr_nf R cr_RF none 80 [none, some 81, none, none, none, none] 82) 82
  refine cr_aload_n h (j := 0) rfl rfl dX6_init_17 ?_
  refine cr_bipush h (v := (6 : Int32)) (by decide) dX6_init_18 ?_
  refine cr_newa h wA_int (N := 6) (by decide) (by decide) rfl (fun k => hZ.aI (by decide) (Nat.le_refl _)) ⟨⟨by decide, by decide, by decide, by decide⟩, rfl, rfl⟩ dX6_init_20 ?_
  rw [hZ.advI (n := 82) (m := 83) (by decide) (by decide) (by decide +kernel), hZ.advR (n := 82) (m := 83) (by decide) (by decide) (by decide +kernel)]
  show cr_V Γ 22 [.ref 80] [.ref 82, .ref 80] (cr_nf I cr_I0 0 80 [0, 0, 0, 0, 0, 0] 83) (cr_nf R cr_RF none 80 [none, some 81, none, none, none, none] 83) 83
  refine cr_putRF h cr_clsX6 (k := 2) (by decide) (by decide) (Or.inr ⟨_, rfl⟩) rfl rfl rfl rfl wf_X6_19 (by decide) (by decide) rfl dX6_init_22 ?_
  unfold cr_nf
  rw [cr_sB_put (by decide)]
  show cr_V Γ 25 [.ref 80] [] (cr_nf I cr_I0 0 80 [0, 0, 0, 0, 0, 0] 83) (cr_nf R cr_RF none 80 [none, some 81, some 82, none, none, none] 83) 83
  refine cr_aload_n h (j := 0) rfl rfl dX6_init_25 ?_
  refine cr_bipush h (v := (6 : Int32)) (by decide) dX6_init_26 ?_
  refine cr_iconst h (v := (4 : Int32)) (by decide) dX6_init_28 ?_
  refine cr_mna h wl_X6_22 wA_int (N := 6) (M := 4) (by decide) (by decide) (by decide) (by decide) rfl (by decide +kernel) (fun j hj => (hZ.aR (by decide) (Nat.le_refl _)).trans ((show ∀ j, j < 6 → cr_R0 83 j = some (83 + 1 + j) by decide +kernel) j hj)) (fun j _ k => hZ.aI (by decide) (by omega)) ⟨⟨by decide, by decide, by decide, by decide⟩, rfl, rfl⟩ dX6_init_29 ?_
  rw [hZ.advI (n := 83) (m := 90) (by decide) (by decide) (by decide +kernel), hZ.advR (n := 83) (m := 90) (by decide) (by decide) (by decide +kernel)]
  show cr_V Γ 33 [.ref 80] [.ref 83, .ref 80] (cr_nf I cr_I0 0 80 [0, 0, 0, 0, 0, 0] 90) (cr_nf R cr_RF none 80 [none, some 81, some 82, none, none, none] 90) 90
  refine cr_putRF h cr_clsX6 (k := 3) (by decide) (by decide) (Or.inr ⟨_, rfl⟩) rfl rfl rfl rfl wf_X6_24 (by decide) (by decide) rfl dX6_init_33 ?_
  unfold cr_nf
  rw [cr_sB_put (by decide)]
  show cr_V Γ 36 [.ref 80] [] (cr_nf I cr_I0 0 80 [0, 0, 0, 0, 0, 0] 90) (cr_nf R cr_RF none 80 [none, some 81, some 82, some 83, none, none] 90) 90
  refine cr_aload_n h (j := 0) rfl rfl dX6_init_36 ?_
  refine cr_bipush h (v := (6 : Int32)) (by decide) dX6_init_37 ?_
  refine cr_iconst h (v := (4 : Int32)) (by decide) dX6_init_39 ?_
  refine cr_mna h wl_X6_22 wA_int (N := 6) (M := 4) (by decide) (by decide) (by decide) (by decide) rfl (by decide +kernel) (fun j hj => (hZ.aR (by decide) (Nat.le_refl _)).trans ((show ∀ j, j < 6 → cr_R0 90 j = some (90 + 1 + j) by decide +kernel) j hj)) (fun j _ k => hZ.aI (by decide) (by omega)) ⟨⟨by decide, by decide, by decide, by decide⟩, rfl, rfl⟩ dX6_init_40 ?_
  rw [hZ.advI (n := 90) (m := 97) (by decide) (by decide) (by decide +kernel), hZ.advR (n := 90) (m := 97) (by decide) (by decide) (by decide +kernel)]
  show cr_V Γ 44 [.ref 80] [.ref 90, .ref 80] (cr_nf I cr_I0 0 80 [0, 0, 0, 0, 0, 0] 97) (cr_nf R cr_RF none 80 [none, some 81, some 82, some 83, none, none] 97) 97
  refine cr_putRF h cr_clsX6 (k := 4) (by decide) (by decide) (Or.inr ⟨_, rfl⟩) rfl rfl rfl rfl wf_X6_27 (by decide) (by decide) rfl dX6_init_44 ?_
  unfold cr_nf
  rw [cr_sB_put (by decide)]
  show cr_V Γ 47 [.ref 80] [] (cr_nf I cr_I0 0 80 [0, 0, 0, 0, 0, 0] 97) (cr_nf R cr_RF none 80 [none, some 81, some 82, some 83, some 90, none] 97) 97
  refine cr_aload_n h (j := 0) rfl rfl dX6_init_47 ?_
  refine cr_bipush h (v := (6 : Int32)) (by decide) dX6_init_48 ?_
  refine cr_iconst h (v := (4 : Int32)) (by decide) dX6_init_50 ?_
  refine cr_mna h wl_X6_22 wA_int (N := 6) (M := 4) (by decide) (by decide) (by decide) (by decide) rfl (by decide +kernel) (fun j hj => (hZ.aR (by decide) (Nat.le_refl _)).trans ((show ∀ j, j < 6 → cr_R0 97 j = some (97 + 1 + j) by decide +kernel) j hj)) (fun j _ k => hZ.aI (by decide) (by omega)) ⟨⟨by decide, by decide, by decide, by decide⟩, rfl, rfl⟩ dX6_init_51 ?_
  rw [hZ.advI (n := 97) (m := 104) (by decide) (by decide) (by decide +kernel), hZ.advR (n := 97) (m := 104) (by decide) (by decide) (by decide +kernel)]
  show cr_V Γ 55 [.ref 80] [.ref 97, .ref 80] (cr_nf I cr_I0 0 80 [0, 0, 0, 0, 0, 0] 104) (cr_nf R cr_RF none 80 [none, some 81, some 82, some 83, some 90, none] 104) 104
  refine cr_putRF h cr_clsX6 (k := 5) (by decide) (by decide) (Or.inr ⟨_, rfl⟩) rfl rfl rfl rfl wf_X6_30 (by decide) (by decide) rfl dX6_init_55 ?_
  unfold cr_nf
  rw [cr_sB_put (by decide)]
  show cr_V Γ 58 [.ref 80] [] (cr_nf I cr_I0 0 80 [0, 0, 0, 0, 0, 0] 104) (cr_nf R cr_RF none 80 [none, some 81, some 82, some 83, some 90, some 97] 104) 104
  rw [cr_nf_end (by decide) (cr_I0_of (by decide +kernel)), cr_nf_end (by decide) (cr_RF_of (by decide +kernel))]
  exact cr_vret h rfl rfl dX6_init_58 hK
abbrev T_yX2_init_79 : cr_T := fun vs I R K => vs = [.ref 79] ∧ cr_Z0 79 I R ∧ K none (cr_mix I 79 104 cr_I0) (cr_mix R 79 104 cr_RF)
theorem C_yX2_init_79 : cr_C yX2_init cX2_init 1 none (cr_rmC 2 40 80 104) 80 104 T_yX2_init_79 := by
  refine cr_C.of (by decide +kernel) (fun vs I R K hT => by obtain ⟨rfl, -, -⟩ := hT; exact Nat.le_of_ble_eq_true rfl) (fun Γ K h vs I R hT => ?_)
  obtain ⟨rfl, hZ, hK⟩ := hT
  show cr_V Γ 0 [.ref 79] [] I R 80
  refine cr_V_eq (cr_nf_start cr_I0 5 (fun k => hZ.1 79 (Nat.le_refl _) k)) (cr_nf_start cr_RF 5 (fun k => hZ.no (by decide +kernel) k)) ?_
  show cr_V Γ 0 [.ref 79] [] (cr_nf I cr_I0 0 79 [0, 0, 0, 0, 0] 80) (cr_nf R cr_RF none 79 [none, none, none, none, none] 80) 80
  refine cr_aload_n h (j := 0) rfl rfl dX2_init_0 ?_
  refine cr_objI h wm_X2_1 wv_objectInit cr_oc (Nat.le_of_ble_eq_true rfl) ⟨by decide, by decide⟩ dX2_init_1 ?_
  refine cr_aload_n h (j := 0) rfl rfl dX2_init_4 ?_
  refine cr_iconst h (v := (1 : Int32)) (by decide) dX2_init_5 ?_
  refine cr_putI h cr_clsX2 (k := 0) (by decide) (by decide) rfl rfl rfl wf_X2_7 (by decide) (by decide) rfl dX2_init_6 ?_
  unfold cr_nf
  rw [cr_sB_put (by decide)]
  show cr_V Γ 9 [.ref 79] [] (cr_nf I cr_I0 0 79 [1, 0, 0, 0, 0] 80) (cr_nf R cr_RF none 79 [none, none, none, none, none] 80) 80
  refine cr_aload_n h (j := 0) rfl rfl dX2_init_9 ?_
  refine cr_iconst h (v := (4 : Int32)) (by decide) dX2_init_10 ?_
  refine cr_putI h cr_clsX2 (k := 1) (by decide) (by decide) rfl rfl rfl wf_X2_13 (by decide) (by decide) rfl dX2_init_11 ?_
  unfold cr_nf
  rw [cr_sB_put (by decide)]
  show cr_V Γ 14 [.ref 79] [] (cr_nf I cr_I0 0 79 [1, 4, 0, 0, 0] 80) (cr_nf R cr_RF none 79 [none, none, none, none, none] 80) 80
  refine cr_aload_n h (j := 0) rfl rfl dX2_init_14 ?_
  refine cr_iconst h (v := (2 : Int32)) (by decide) dX2_init_15 ?_
  refine cr_putI h cr_clsX2 (k := 2) (by decide) (by decide) rfl rfl rfl wf_X2_16 (by decide) (by decide) rfl dX2_init_16 ?_
  unfold cr_nf
  rw [cr_sB_put (by decide)]
  show cr_V Γ 19 [.ref 79] [] (cr_nf I cr_I0 0 79 [1, 4, 2, 0, 0] 80) (cr_nf R cr_RF none 79 [none, none, none, none, none] 80) 80
  refine cr_aload_n h (j := 0) rfl rfl dX2_init_19 ?_
  refine cr_iconst h (v := (0 : Int32)) (by decide) dX2_init_20 ?_
  refine cr_putI h cr_clsX2 (k := 3) (by decide) (by decide) rfl rfl rfl wf_X2_19 (by decide) (by decide) rfl dX2_init_21 ?_
  unfold cr_nf
  rw [cr_sB_put (by decide)]
  show cr_V Γ 24 [.ref 79] [] (cr_nf I cr_I0 0 79 [1, 4, 2, 0, 0] 80) (cr_nf R cr_RF none 79 [none, none, none, none, none] 80) 80
  refine cr_aload_n h (j := 0) rfl rfl dX2_init_24 ?_
  refine cr_new h cr_clsX6 wl_X2_22 wN_X6 wI_X6 rfl (fun k _ => hZ.aI (by decide) (Nat.le_refl _)) (fun k _ => (hZ.aR (by decide) (Nat.le_refl _)).trans (cr_R0_nil (by decide +kernel))) cr_tf6 ⟨⟨by decide, by decide, by decide, by decide⟩, rfl, rfl⟩ dX2_init_25 ?_
  show cr_V Γ 28 [.ref 79] [.ref 80, .ref 79] (cr_nf I cr_I0 0 79 [1, 4, 2, 0, 0] 80) (cr_nf R cr_RF none 79 [none, none, none, none, none] 80) 81
  refine cr_dup h rfl dX2_init_28 ?_
  refine cr_callIN h C_yX6_init_80 cZ_yX6_init rfl rfl (fun U hU => hU.2.2.2.2.1) wv_yX6_init ⟨⟨by decide, by decide⟩, ⟨rfl, rfl⟩, ⟨by decide, by decide, by decide⟩, rfl, rfl⟩ (As := []) (b := 80) rfl (Nat.le_of_ble_eq_true rfl) dX2_init_29 ⟨rfl, (hZ.nf (by decide)), ?_⟩
  rw [cr_nf_sub (by decide) (by decide), cr_nf_sub (by decide) (by decide)]
  show cr_V Γ 32 [.ref 79] [.ref 80, .ref 79] (cr_nf I cr_I0 0 79 [1, 4, 2, 0, 0] 104) (cr_nf R cr_RF none 79 [none, none, none, none, none] 104) 104
  refine cr_putR h cr_clsX2 (k := 4) (by decide) (by decide) (Or.inl ⟨_, rfl⟩) rfl rfl wf_X2_25 (by decide) (by decide) rfl dX2_init_32 ?_
  unfold cr_nf
  rw [cr_sB_put (by decide)]
  show cr_V Γ 35 [.ref 79] [] (cr_nf I cr_I0 0 79 [1, 4, 2, 0, 0] 104) (cr_nf R cr_RF none 79 [none, none, none, none, some 80] 104) 104
  rw [cr_nf_end (by decide) (cr_I0_of (by decide +kernel)), cr_nf_end (by decide) (cr_RF_of (by decide +kernel))]
  exact cr_vret h rfl rfl dX2_init_35 hK
abbrev T_yX6_init_105 : cr_T := fun vs I R K => vs = [.ref 105] ∧ cr_Z0 105 I R ∧ K none (cr_mix I 105 129 cr_I0) (cr_mix R 105 129 cr_RF)
theorem C_yX6_init_105 : cr_C yX6_init cX6_init 1 none (cr_rmC 1 20 106 129) 106 129 T_yX6_init_105 := by
  refine cr_C.of (by decide +kernel) (fun vs I R K hT => by obtain ⟨rfl, -, -⟩ := hT; exact Nat.le_of_ble_eq_true rfl) (fun Γ K h vs I R hT => ?_)
  obtain ⟨rfl, hZ, hK⟩ := hT
  show cr_V Γ 0 [.ref 105] [] I R 106
  refine cr_V_eq (cr_nf_start cr_I0 6 (fun k => hZ.1 105 (Nat.le_refl _) k)) (cr_nf_start cr_RF 6 (fun k => hZ.no (by decide +kernel) k)) ?_
  show cr_V Γ 0 [.ref 105] [] (cr_nf I cr_I0 0 105 [0, 0, 0, 0, 0, 0] 106) (cr_nf R cr_RF none 105 [none, none, none, none, none, none] 106) 106
  refine cr_aload_n h (j := 0) rfl rfl dX6_init_0 ?_
  refine cr_objI h wm_X6_3 wv_objectInit cr_oc (Nat.le_of_ble_eq_true rfl) ⟨by decide, by decide⟩ dX6_init_1 ?_
  refine cr_aload_n h (j := 0) rfl rfl dX6_init_4 ?_
  refine cr_iconst h (v := (0 : Int32)) (by decide) dX6_init_5 ?_
  refine cr_putI h cr_clsX6 (k := 0) (by decide) (by decide) rfl rfl rfl wf_X6_9 (by decide) (by decide) rfl dX6_init_6 ?_
  unfold cr_nf
  rw [cr_sB_put (by decide)]
  show cr_V Γ 9 [.ref 105] [] (cr_nf I cr_I0 0 105 [0, 0, 0, 0, 0, 0] 106) (cr_nf R cr_RF none 105 [none, none, none, none, none, none] 106) 106
  refine cr_aload_n h (j := 0) rfl rfl dX6_init_9 ?_
  refine cr_bipush h (v := (6 : Int32)) (by decide) dX6_init_10 ?_
  refine cr_newa h wA_int (N := 6) (by decide) (by decide) rfl (fun k => hZ.aI (by decide) (Nat.le_refl _)) ⟨⟨by decide, by decide, by decide, by decide⟩, rfl, rfl⟩ dX6_init_12 ?_
  rw [hZ.advI (n := 106) (m := 107) (by decide) (by decide) (by decide +kernel), hZ.advR (n := 106) (m := 107) (by decide) (by decide) (by decide +kernel)]
  show cr_V Γ 14 [.ref 105] [.ref 106, .ref 105] (cr_nf I cr_I0 0 105 [0, 0, 0, 0, 0, 0] 107) (cr_nf R cr_RF none 105 [none, none, none, none, none, none] 107) 107
  refine cr_putRF h cr_clsX6 (k := 1) (by decide) (by decide) (Or.inr ⟨_, rfl⟩) rfl rfl rfl rfl wf_X6_15 (by decide) (by decide) rfl dX6_init_14 ?_
  unfold cr_nf
  rw [cr_sB_put (by decide)]
  show cr_V Γ 17 [.ref 105] [] (cr_nf I cr_I0 0 105 [0, 0, 0, 0, 0, 0] 107) (cr_nf R cr_RF none 105 [none, some 106, none, none, none, none] 107) 107
  refine cr_aload_n h (j := 0) rfl rfl dX6_init_17 ?_
  refine cr_bipush h (v := (6 : Int32)) (by decide) dX6_init_18 ?_
  refine cr_newa h wA_int (N := 6) (by decide) (by decide) rfl (fun k => hZ.aI (by decide) (Nat.le_refl _)) ⟨⟨by decide, by decide, by decide, by decide⟩, rfl, rfl⟩ dX6_init_20 ?_
  rw [hZ.advI (n := 107) (m := 108) (by decide) (by decide) (by decide +kernel), hZ.advR (n := 107) (m := 108) (by decide) (by decide) (by decide +kernel)]
  show cr_V Γ 22 [.ref 105] [.ref 107, .ref 105] (cr_nf I cr_I0 0 105 [0, 0, 0, 0, 0, 0] 108) (cr_nf R cr_RF none 105 [none, some 106, none, none, none, none] 108) 108
  refine cr_putRF h cr_clsX6 (k := 2) (by decide) (by decide) (Or.inr ⟨_, rfl⟩) rfl rfl rfl rfl wf_X6_19 (by decide) (by decide) rfl dX6_init_22 ?_
  unfold cr_nf
  rw [cr_sB_put (by decide)]
  show cr_V Γ 25 [.ref 105] [] (cr_nf I cr_I0 0 105 [0, 0, 0, 0, 0, 0] 108) (cr_nf R cr_RF none 105 [none, some 106, some 107, none, none, none] 108) 108
  refine cr_aload_n h (j := 0) rfl rfl dX6_init_25 ?_
  refine cr_bipush h (v := (6 : Int32)) (by decide) dX6_init_26 ?_
  refine cr_iconst h (v := (4 : Int32)) (by decide) dX6_init_28 ?_
  refine cr_mna h wl_X6_22 wA_int (N := 6) (M := 4) (by decide) (by decide) (by decide) (by decide) rfl (by decide +kernel) (fun j hj => (hZ.aR (by decide) (Nat.le_refl _)).trans ((show ∀ j, j < 6 → cr_R0 108 j = some (108 + 1 + j) by decide +kernel) j hj)) (fun j _ k => hZ.aI (by decide) (by omega)) ⟨⟨by decide, by decide, by decide, by decide⟩, rfl, rfl⟩ dX6_init_29 ?_
  rw [hZ.advI (n := 108) (m := 115) (by decide) (by decide) (by decide +kernel), hZ.advR (n := 108) (m := 115) (by decide) (by decide) (by decide +kernel)]
  show cr_V Γ 33 [.ref 105] [.ref 108, .ref 105] (cr_nf I cr_I0 0 105 [0, 0, 0, 0, 0, 0] 115) (cr_nf R cr_RF none 105 [none, some 106, some 107, none, none, none] 115) 115
  refine cr_putRF h cr_clsX6 (k := 3) (by decide) (by decide) (Or.inr ⟨_, rfl⟩) rfl rfl rfl rfl wf_X6_24 (by decide) (by decide) rfl dX6_init_33 ?_
  unfold cr_nf
  rw [cr_sB_put (by decide)]
  show cr_V Γ 36 [.ref 105] [] (cr_nf I cr_I0 0 105 [0, 0, 0, 0, 0, 0] 115) (cr_nf R cr_RF none 105 [none, some 106, some 107, some 108, none, none] 115) 115
  refine cr_aload_n h (j := 0) rfl rfl dX6_init_36 ?_
  refine cr_bipush h (v := (6 : Int32)) (by decide) dX6_init_37 ?_
  refine cr_iconst h (v := (4 : Int32)) (by decide) dX6_init_39 ?_
  refine cr_mna h wl_X6_22 wA_int (N := 6) (M := 4) (by decide) (by decide) (by decide) (by decide) rfl (by decide +kernel) (fun j hj => (hZ.aR (by decide) (Nat.le_refl _)).trans ((show ∀ j, j < 6 → cr_R0 115 j = some (115 + 1 + j) by decide +kernel) j hj)) (fun j _ k => hZ.aI (by decide) (by omega)) ⟨⟨by decide, by decide, by decide, by decide⟩, rfl, rfl⟩ dX6_init_40 ?_
  rw [hZ.advI (n := 115) (m := 122) (by decide) (by decide) (by decide +kernel), hZ.advR (n := 115) (m := 122) (by decide) (by decide) (by decide +kernel)]
  show cr_V Γ 44 [.ref 105] [.ref 115, .ref 105] (cr_nf I cr_I0 0 105 [0, 0, 0, 0, 0, 0] 122) (cr_nf R cr_RF none 105 [none, some 106, some 107, some 108, none, none] 122) 122
  refine cr_putRF h cr_clsX6 (k := 4) (by decide) (by decide) (Or.inr ⟨_, rfl⟩) rfl rfl rfl rfl wf_X6_27 (by decide) (by decide) rfl dX6_init_44 ?_
  unfold cr_nf
  rw [cr_sB_put (by decide)]
  show cr_V Γ 47 [.ref 105] [] (cr_nf I cr_I0 0 105 [0, 0, 0, 0, 0, 0] 122) (cr_nf R cr_RF none 105 [none, some 106, some 107, some 108, some 115, none] 122) 122
  refine cr_aload_n h (j := 0) rfl rfl dX6_init_47 ?_
  refine cr_bipush h (v := (6 : Int32)) (by decide) dX6_init_48 ?_
  refine cr_iconst h (v := (4 : Int32)) (by decide) dX6_init_50 ?_
  refine cr_mna h wl_X6_22 wA_int (N := 6) (M := 4) (by decide) (by decide) (by decide) (by decide) rfl (by decide +kernel) (fun j hj => (hZ.aR (by decide) (Nat.le_refl _)).trans ((show ∀ j, j < 6 → cr_R0 122 j = some (122 + 1 + j) by decide +kernel) j hj)) (fun j _ k => hZ.aI (by decide) (by omega)) ⟨⟨by decide, by decide, by decide, by decide⟩, rfl, rfl⟩ dX6_init_51 ?_
  rw [hZ.advI (n := 122) (m := 129) (by decide) (by decide) (by decide +kernel), hZ.advR (n := 122) (m := 129) (by decide) (by decide) (by decide +kernel)]
  show cr_V Γ 55 [.ref 105] [.ref 122, .ref 105] (cr_nf I cr_I0 0 105 [0, 0, 0, 0, 0, 0] 129) (cr_nf R cr_RF none 105 [none, some 106, some 107, some 108, some 115, none] 129) 129
  refine cr_putRF h cr_clsX6 (k := 5) (by decide) (by decide) (Or.inr ⟨_, rfl⟩) rfl rfl rfl rfl wf_X6_30 (by decide) (by decide) rfl dX6_init_55 ?_
  unfold cr_nf
  rw [cr_sB_put (by decide)]
  show cr_V Γ 58 [.ref 105] [] (cr_nf I cr_I0 0 105 [0, 0, 0, 0, 0, 0] 129) (cr_nf R cr_RF none 105 [none, some 106, some 107, some 108, some 115, some 122] 129) 129
  rw [cr_nf_end (by decide) (cr_I0_of (by decide +kernel)), cr_nf_end (by decide) (cr_RF_of (by decide +kernel))]
  exact cr_vret h rfl rfl dX6_init_58 hK
abbrev T_yX2_init_104 : cr_T := fun vs I R K => vs = [.ref 104] ∧ cr_Z0 104 I R ∧ K none (cr_mix I 104 129 cr_I0) (cr_mix R 104 129 cr_RF)
theorem C_yX2_init_104 : cr_C yX2_init cX2_init 1 none (cr_rmC 2 40 105 129) 105 129 T_yX2_init_104 := by
  refine cr_C.of (by decide +kernel) (fun vs I R K hT => by obtain ⟨rfl, -, -⟩ := hT; exact Nat.le_of_ble_eq_true rfl) (fun Γ K h vs I R hT => ?_)
  obtain ⟨rfl, hZ, hK⟩ := hT
  show cr_V Γ 0 [.ref 104] [] I R 105
  refine cr_V_eq (cr_nf_start cr_I0 5 (fun k => hZ.1 104 (Nat.le_refl _) k)) (cr_nf_start cr_RF 5 (fun k => hZ.no (by decide +kernel) k)) ?_
  show cr_V Γ 0 [.ref 104] [] (cr_nf I cr_I0 0 104 [0, 0, 0, 0, 0] 105) (cr_nf R cr_RF none 104 [none, none, none, none, none] 105) 105
  refine cr_aload_n h (j := 0) rfl rfl dX2_init_0 ?_
  refine cr_objI h wm_X2_1 wv_objectInit cr_oc (Nat.le_of_ble_eq_true rfl) ⟨by decide, by decide⟩ dX2_init_1 ?_
  refine cr_aload_n h (j := 0) rfl rfl dX2_init_4 ?_
  refine cr_iconst h (v := (1 : Int32)) (by decide) dX2_init_5 ?_
  refine cr_putI h cr_clsX2 (k := 0) (by decide) (by decide) rfl rfl rfl wf_X2_7 (by decide) (by decide) rfl dX2_init_6 ?_
  unfold cr_nf
  rw [cr_sB_put (by decide)]
  show cr_V Γ 9 [.ref 104] [] (cr_nf I cr_I0 0 104 [1, 0, 0, 0, 0] 105) (cr_nf R cr_RF none 104 [none, none, none, none, none] 105) 105
  refine cr_aload_n h (j := 0) rfl rfl dX2_init_9 ?_
  refine cr_iconst h (v := (4 : Int32)) (by decide) dX2_init_10 ?_
  refine cr_putI h cr_clsX2 (k := 1) (by decide) (by decide) rfl rfl rfl wf_X2_13 (by decide) (by decide) rfl dX2_init_11 ?_
  unfold cr_nf
  rw [cr_sB_put (by decide)]
  show cr_V Γ 14 [.ref 104] [] (cr_nf I cr_I0 0 104 [1, 4, 0, 0, 0] 105) (cr_nf R cr_RF none 104 [none, none, none, none, none] 105) 105
  refine cr_aload_n h (j := 0) rfl rfl dX2_init_14 ?_
  refine cr_iconst h (v := (2 : Int32)) (by decide) dX2_init_15 ?_
  refine cr_putI h cr_clsX2 (k := 2) (by decide) (by decide) rfl rfl rfl wf_X2_16 (by decide) (by decide) rfl dX2_init_16 ?_
  unfold cr_nf
  rw [cr_sB_put (by decide)]
  show cr_V Γ 19 [.ref 104] [] (cr_nf I cr_I0 0 104 [1, 4, 2, 0, 0] 105) (cr_nf R cr_RF none 104 [none, none, none, none, none] 105) 105
  refine cr_aload_n h (j := 0) rfl rfl dX2_init_19 ?_
  refine cr_iconst h (v := (0 : Int32)) (by decide) dX2_init_20 ?_
  refine cr_putI h cr_clsX2 (k := 3) (by decide) (by decide) rfl rfl rfl wf_X2_19 (by decide) (by decide) rfl dX2_init_21 ?_
  unfold cr_nf
  rw [cr_sB_put (by decide)]
  show cr_V Γ 24 [.ref 104] [] (cr_nf I cr_I0 0 104 [1, 4, 2, 0, 0] 105) (cr_nf R cr_RF none 104 [none, none, none, none, none] 105) 105
  refine cr_aload_n h (j := 0) rfl rfl dX2_init_24 ?_
  refine cr_new h cr_clsX6 wl_X2_22 wN_X6 wI_X6 rfl (fun k _ => hZ.aI (by decide) (Nat.le_refl _)) (fun k _ => (hZ.aR (by decide) (Nat.le_refl _)).trans (cr_R0_nil (by decide +kernel))) cr_tf6 ⟨⟨by decide, by decide, by decide, by decide⟩, rfl, rfl⟩ dX2_init_25 ?_
  show cr_V Γ 28 [.ref 104] [.ref 105, .ref 104] (cr_nf I cr_I0 0 104 [1, 4, 2, 0, 0] 105) (cr_nf R cr_RF none 104 [none, none, none, none, none] 105) 106
  refine cr_dup h rfl dX2_init_28 ?_
  refine cr_callIN h C_yX6_init_105 cZ_yX6_init rfl rfl (fun U hU => hU.2.2.2.2.1) wv_yX6_init ⟨⟨by decide, by decide⟩, ⟨rfl, rfl⟩, ⟨by decide, by decide, by decide⟩, rfl, rfl⟩ (As := []) (b := 105) rfl (Nat.le_of_ble_eq_true rfl) dX2_init_29 ⟨rfl, (hZ.nf (by decide)), ?_⟩
  rw [cr_nf_sub (by decide) (by decide), cr_nf_sub (by decide) (by decide)]
  show cr_V Γ 32 [.ref 104] [.ref 105, .ref 104] (cr_nf I cr_I0 0 104 [1, 4, 2, 0, 0] 129) (cr_nf R cr_RF none 104 [none, none, none, none, none] 129) 129
  refine cr_putR h cr_clsX2 (k := 4) (by decide) (by decide) (Or.inl ⟨_, rfl⟩) rfl rfl wf_X2_25 (by decide) (by decide) rfl dX2_init_32 ?_
  unfold cr_nf
  rw [cr_sB_put (by decide)]
  show cr_V Γ 35 [.ref 104] [] (cr_nf I cr_I0 0 104 [1, 4, 2, 0, 0] 129) (cr_nf R cr_RF none 104 [none, none, none, none, some 105] 129) 129
  rw [cr_nf_end (by decide) (cr_I0_of (by decide +kernel)), cr_nf_end (by decide) (cr_RF_of (by decide +kernel))]
  exact cr_vret h rfl rfl dX2_init_35 hK
abbrev T_yX3_init_27 : cr_T := fun vs I R K => vs = [.ref 27] ∧ cr_Z0 27 I R ∧ K none (cr_mix I 27 137 cr_I0) (cr_mix R 27 137 cr_RF)
theorem C_yX3_init_27 : cr_C yX3_init cX3_init 1 none (cr_rmC 3 60 28 137) 28 137 T_yX3_init_27 := by
  refine cr_C.of (by decide +kernel) (fun vs I R K hT => by obtain ⟨rfl, -, -⟩ := hT; exact Nat.le_of_ble_eq_true rfl) (fun Γ K h vs I R hT => ?_)
  obtain ⟨rfl, hZ, hK⟩ := hT
  show cr_V Γ 0 [.ref 27] [] I R 28
  refine cr_V_eq (cr_nf_start cr_I0 17 (fun k => hZ.1 27 (Nat.le_refl _) k)) (cr_nf_start cr_RF 17 (fun k => hZ.no (by decide +kernel) k)) ?_
  show cr_V Γ 0 [.ref 27] [] (cr_nf I cr_I0 0 27 [0, 0, 0, 0, 0, 0, 0, 0, 0, 0, 0, 0, 0, 0, 0, 0, 0] 28) (cr_nf R cr_RF none 27 [none, none, none, none, none, none, none, none, none, none, none, none, none, none, none, none, none] 28) 28
  refine cr_aload_n h (j := 0) rfl rfl dX3_init_0 ?_
  refine cr_objI h wm_X3_3 wv_objectInit cr_oc (Nat.le_of_ble_eq_true rfl) ⟨by decide, by decide⟩ dX3_init_1 ?_
  refine cr_aload_n h (j := 0) rfl rfl dX3_init_4 ?_
  refine cr_iconst h (v := (4 : Int32)) (by decide) dX3_init_5 ?_
  refine cr_anew h wl_X3_9 (N := 4) (by decide) (by decide) rfl (fun k => (hZ.aR (by decide) (Nat.le_refl _)).trans (cr_R0_nil (by decide +kernel))) ⟨⟨by decide, by decide, by decide, by decide⟩, rfl, rfl⟩ dX3_init_6 ?_
  rw [hZ.advI (n := 28) (m := 29) (by decide) (by decide) (by decide +kernel), hZ.opR 4 (by decide) (by decide +kernel)]
  show cr_V Γ 9 [.ref 27] [.ref 28, .ref 27] (cr_nf I cr_I0 0 27 [0, 0, 0, 0, 0, 0, 0, 0, 0, 0, 0, 0, 0, 0, 0, 0, 0] 29) (cr_sB (cr_nf R cr_RF none 27 [none, none, none, none, none, none, none, none, none, none, none, none, none, none, none, none, none] 29) none 28 [none, none, none, none]) 29
  refine cr_dup h rfl dX3_init_9 ?_
  refine cr_iconst h (v := (0 : Int32)) (by decide) dX3_init_10 ?_
  refine cr_new h cr_clsX2 wl_X3_9 wN_X2 wI_X2 rfl (fun k _ => hZ.aI (by decide) (Nat.le_refl _)) (fun k _ => ((cr_sB_o (by decide)).trans (hZ.aR (by decide) (Nat.le_refl _))).trans (cr_R0_nil (by decide +kernel))) cr_tf2 ⟨⟨by decide, by decide, by decide, by decide⟩, rfl, rfl⟩ dX3_init_11 ?_
  show cr_V Γ 14 [.ref 27] [.ref 29, .int (0 : Int32), .ref 28, .ref 28, .ref 27] (cr_nf I cr_I0 0 27 [0, 0, 0, 0, 0, 0, 0, 0, 0, 0, 0, 0, 0, 0, 0, 0, 0] 29) (cr_sB (cr_nf R cr_RF none 27 [none, none, none, none, none, none, none, none, none, none, none, none, none, none, none, none, none] 29) none 28 [none, none, none, none]) 30
  refine cr_dup h rfl dX3_init_14 ?_
  refine cr_callIN h C_yX2_init_29 cZ_yX2_init rfl rfl (fun U hU => hU.2.2.2.1) wv_yX2_init ⟨⟨by decide, by decide⟩, ⟨rfl, rfl⟩, ⟨by decide, by decide, by decide⟩, rfl, rfl⟩ (As := []) (b := 29) rfl (Nat.le_of_ble_eq_true rfl) dX3_init_15 ⟨rfl, (cr_Z0.oR (hZ.nf (by decide)) (by decide)), ?_⟩
  rw [cr_nf_sub (by decide) (by decide), cr_nf_subO (by decide) (by decide) (by decide)]
  show cr_V Γ 18 [.ref 27] [.ref 29, .int (0 : Int32), .ref 28, .ref 28, .ref 27] (cr_nf I cr_I0 0 27 [0, 0, 0, 0, 0, 0, 0, 0, 0, 0, 0, 0, 0, 0, 0, 0, 0] 54) (cr_sB (cr_nf R cr_RF none 27 [none, none, none, none, none, none, none, none, none, none, none, none, none, none, none, none, none] 54) none 28 [none, none, none, none]) 54
  refine cr_aast h (by decide) (by decide) rfl (by decide) (c0 := 2) (N0 := 5) rfl rfl rfl ⟨by decide, by decide⟩ dX3_init_18 ?_
  rw [cr_sB_put (by decide)]
  show cr_V Γ 19 [.ref 27] [.ref 28, .ref 27] (cr_nf I cr_I0 0 27 [0, 0, 0, 0, 0, 0, 0, 0, 0, 0, 0, 0, 0, 0, 0, 0, 0] 54) (cr_sB (cr_nf R cr_RF none 27 [none, none, none, none, none, none, none, none, none, none, none, none, none, none, none, none, none] 54) none 28 [some 29, none, none, none]) 54
  refine cr_dup h rfl dX3_init_19 ?_
  refine cr_iconst h (v := (1 : Int32)) (by decide) dX3_init_20 ?_
  refine cr_new h cr_clsX2 wl_X3_9 wN_X2 wI_X2 rfl (fun k _ => hZ.aI (by decide) (Nat.le_refl _)) (fun k _ => ((cr_sB_o (by decide)).trans (hZ.aR (by decide) (Nat.le_refl _))).trans (cr_R0_nil (by decide +kernel))) cr_tf2 ⟨⟨by decide, by decide, by decide, by decide⟩, rfl, rfl⟩ dX3_init_21 ?_
  show cr_V Γ 24 [.ref 27] [.ref 54, .int (1 : Int32), .ref 28, .ref 28, .ref 27] (cr_nf I cr_I0 0 27 [0, 0, 0, 0, 0, 0, 0, 0, 0, 0, 0, 0, 0, 0, 0, 0, 0] 54) (cr_sB (cr_nf R cr_RF none 27 [none, none, none, none, none, none, none, none, none, none, none, none, none, none, none, none, none] 54) none 28 [some 29, none, none, none]) 55
  refine cr_dup h rfl dX3_init_24 ?_
  refine cr_callIN h C_yX2_init_54 cZ_yX2_init rfl rfl (fun U hU => hU.2.2.2.1) wv_yX2_init ⟨⟨by decide, by decide⟩, ⟨rfl, rfl⟩, ⟨by decide, by decide, by decide⟩, rfl, rfl⟩ (As := []) (b := 54) rfl (Nat.le_of_ble_eq_true rfl) dX3_init_25 ⟨rfl, (cr_Z0.oR (hZ.nf (by decide)) (by decide)), ?_⟩
  rw [cr_nf_sub (by decide) (by decide), cr_nf_subO (by decide) (by decide) (by decide)]
  show cr_V Γ 28 [.ref 27] [.ref 54, .int (1 : Int32), .ref 28, .ref 28, .ref 27] (cr_nf I cr_I0 0 27 [0, 0, 0, 0, 0, 0, 0, 0, 0, 0, 0, 0, 0, 0, 0, 0, 0] 79) (cr_sB (cr_nf R cr_RF none 27 [none, none, none, none, none, none, none, none, none, none, none, none, none, none, none, none, none] 79) none 28 [some 29, none, none, none]) 79
  refine cr_aast h (by decide) (by decide) rfl (by decide) (c0 := 2) (N0 := 5) rfl rfl rfl ⟨by decide, by decide⟩ dX3_init_28 ?_
  rw [cr_sB_put (by decide)]
  show cr_V Γ 29 [.ref 27] [.ref 28, .ref 27] (cr_nf I cr_I0 0 27 [0, 0, 0, 0, 0, 0, 0, 0, 0, 0, 0, 0, 0, 0, 0, 0, 0] 79) (cr_sB (cr_nf R cr_RF none 27 [none, none, none, none, none, none, none, none, none, none, none, none, none, none, none, none, none] 79) none 28 [some 29, some 54, none, none]) 79
  refine cr_dup h rfl dX3_init_29 ?_
  refine cr_iconst h (v := (2 : Int32)) (by decide) dX3_init_30 ?_
  refine cr_new h cr_clsX2 wl_X3_9 wN_X2 wI_X2 rfl (fun k _ => hZ.aI (by decide) (Nat.le_refl _)) (fun k _ => ((cr_sB_o (by decide)).trans (hZ.aR (by decide) (Nat.le_refl _))).trans (cr_R0_nil (by decide +kernel))) cr_tf2 ⟨⟨by decide, by decide, by decide, by decide⟩, rfl, rfl⟩ dX3_init_31 ?_
  show cr_V Γ 34 [.ref 27] [.ref 79, .int (2 : Int32), .ref 28, .ref 28, .ref 27] (cr_nf I cr_I0 0 27 [0, 0, 0, 0, 0, 0, 0, 0, 0, 0, 0, 0, 0, 0, 0, 0, 0] 79) (cr_sB (cr_nf R cr_RF none 27 [none, none, none, none, none, none, none, none, none, none, none, none, none, none, none, none, none] 79) none 28 [some 29, some 54, none, none]) 80
  refine cr_dup h rfl dX3_init_34 ?_
  refine cr_callIN h C_yX2_init_79 cZ_yX2_init rfl rfl (fun U hU => hU.2.2.2.1) wv_yX2_init ⟨⟨by decide, by decide⟩, ⟨rfl, rfl⟩, ⟨by decide, by decide, by decide⟩, rfl, rfl⟩ (As := []) (b := 79) rfl (Nat.le_of_ble_eq_true rfl) dX3_init_35 ⟨rfl, (cr_Z0.oR (hZ.nf (by decide)) (by decide)), ?_⟩
  rw [cr_nf_sub (by decide) (by decide), cr_nf_subO (by decide) (by decide) (by decide)]
  show cr_V Γ 38 [.ref 27] [.ref 79, .int (2 : Int32), .ref 28, .ref 28, .ref 27] (cr_nf I cr_I0 0 27 [0, 0, 0, 0, 0, 0, 0, 0, 0, 0, 0, 0, 0, 0, 0, 0, 0] 104) (cr_sB (cr_nf R cr_RF none 27 [none, none, none, none, none, none, none, none, none, none, none, none, none, none, none, none, none] 104) none 28 [some 29, some 54, none, none]) 104
  refine cr_aast h (by decide) (by decide) rfl (by decide) (c0 := 2) (N0 := 5) rfl rfl rfl ⟨by decide, by decide⟩ dX3_init_38 ?_
  rw [cr_sB_put (by decide)]
  show cr_V Γ 39 [.ref 27] [.ref 28, .ref 27] (cr_nf I cr_I0 0 27 [0, 0, 0, 0, 0, 0, 0, 0, 0, 0, 0, 0, 0, 0, 0, 0, 0] 104) (cr_sB (cr_nf R cr_RF none 27 [none, none, none, none, none, none, none, none, none, none, none, none, none, none, none, none, none] 104) none 28 [some 29, some 54, some 79, none]) 104
  refine cr_dup h rfl dX3_init_39 ?_
  refine cr_iconst h (v := (3 : Int32)) (by decide) dX3_init_40 ?_
  refine cr_new h cr_clsX2 wl_X3_9 wN_X2 wI_X2 rfl (fun k _ => hZ.aI (by decide) (Nat.le_refl _)) (fun k _ => ((cr_sB_o (by decide)).trans (hZ.aR (by decide) (Nat.le_refl _))).trans (cr_R0_nil (by decide +kernel))) cr_tf2 ⟨⟨by decide, by decide, by decide, by decide⟩, rfl, rfl⟩ dX3_init_41 ?_
  show cr_V Γ 44 [.ref 27] [.ref 104, .int (3 : Int32), .ref 28, .ref 28, .ref 27] (cr_nf I cr_I0 0 27 [0, 0, 0, 0, 0, 0, 0, 0, 0, 0, 0, 0, 0, 0, 0, 0, 0] 104) (cr_sB (cr_nf R cr_RF none 27 [none, none, none, none, none, none, none, none, none, none, none, none, none, none, none, none, none] 104) none 28 [some 29, some 54, some 79, none]) 105
  refine cr_dup h rfl dX3_init_44 ?_
  refine cr_callIN h C_yX2_init_104 cZ_yX2_init rfl rfl (fun U hU => hU.2.2.2.1) wv_yX2_init ⟨⟨by decide, by decide⟩, ⟨rfl, rfl⟩, ⟨by decide, by decide, by decide⟩, rfl, rfl⟩ (As := []) (b := 104) rfl (Nat.le_of_ble_eq_true rfl) dX3_init_45 ⟨rfl, (cr_Z0.oR (hZ.nf (by decide)) (by decide)), ?_⟩
  rw [cr_nf_sub (by decide) (by decide), cr_nf_subO (by decide) (by decide) (by decide)]
  show cr_V Γ 48 [.ref 27] [.ref 104, .int (3 : Int32), .ref 28, .ref 28, .ref 27] (cr_nf I cr_I0 0 27 [0, 0, 0, 0, 0, 0, 0, 0, 0, 0, 0, 0, 0, 0, 0, 0, 0] 129) (cr_sB (cr_nf R cr_RF none 27 [none, none, none, none, none, none, none, none, none, none, none, none, none, none, none, none, none] 129) none 28 [some 29, some 54, some 79, none]) 129
  refine cr_aast h (by decide) (by decide) rfl (by decide) (c0 := 2) (N0 := 5) rfl rfl rfl ⟨by decide, by decide⟩ dX3_init_48 ?_
  rw [cr_sB_put (by decide)]
  show cr_V Γ 49 [.ref 27] [.ref 28, .ref 27] (cr_nf I cr_I0 0 27 [0, 0, 0, 0, 0, 0, 0, 0, 0, 0, 0, 0, 0, 0, 0, 0, 0] 129) (cr_sB (cr_nf R cr_RF none 27 [none, none, none, none, none, none, none, none, none, none, none, none, none, none, none, none, none] 129) none 28 [some 29, some 54, some 79, some 104]) 129
  rw [cr_nf_close (by decide) (by decide) (cr_RF_of (by decide +kernel))]
  refine cr_putRF h cr_clsX3 (k := 0) (by decide) (by decide) (Or.inr ⟨_, rfl⟩) rfl rfl rfl rfl wf_X3_12 (by decide) (by decide) rfl dX3_init_49 ?_
  unfold cr_nf
  rw [cr_sB_put (by decide)]
  show cr_V Γ 52 [.ref 27] [] (cr_nf I cr_I0 0 27 [0, 0, 0, 0, 0, 0, 0, 0, 0, 0, 0, 0, 0, 0, 0, 0, 0] 129) (cr_nf R cr_RF none 27 [some 28, none, none, none, none, none, none, none, none, none, none, none, none, none, none, none, none] 129) 129
  refine cr_aload_n h (j := 0) rfl rfl dX3_init_52 ?_
  refine cr_iconst h (v := (1 : Int32)) (by decide) dX3_init_53 ?_
  refine cr_putI h cr_clsX3 (k := 1) (by decide) (by decide) rfl rfl rfl wf_X3_18 (by decide) (by decide) rfl dX3_init_54 ?_
  unfold cr_nf
  rw [cr_sB_put (by decide)]
  show cr_V Γ 57 [.ref 27] [] (cr_nf I cr_I0 0 27 [0, 1, 0, 0, 0, 0, 0, 0, 0, 0, 0, 0, 0, 0, 0, 0, 0] 129) (cr_nf R cr_RF none 27 [some 28, none, none, none, none, none, none, none, none, none, none, none, none, none, none, none, none] 129) 129
  refine cr_aload_n h (j := 0) rfl rfl dX3_init_57 ?_
  refine cr_bipush h (v := (6 : Int32)) (by decide) dX3_init_58 ?_
  refine cr_newa h wA_int (N := 6) (by decide) (by decide) rfl (fun k => hZ.aI (by decide) (Nat.le_refl _)) ⟨⟨by decide, by decide, by decide, by decide⟩, rfl, rfl⟩ dX3_init_60 ?_
  rw [hZ.advI (n := 129) (m := 130) (by decide) (by decide) (by decide +kernel), hZ.advR (n := 129) (m := 130) (by decide) (by decide) (by decide +kernel)]
  show cr_V Γ 62 [.ref 27] [.ref 129, .ref 27] (cr_nf I cr_I0 0 27 [0, 1, 0, 0, 0, 0, 0, 0, 0, 0, 0, 0, 0, 0, 0, 0, 0] 130) (cr_nf R cr_RF none 27 [some 28, none, none, none, none, none, none, none, none, none, none, none, none, none, none, none, none] 130) 130
  refine cr_putRF h cr_clsX3 (k := 2) (by decide) (by decide) (Or.inr ⟨_, rfl⟩) rfl rfl rfl rfl wf_X3_22 (by decide) (by decide) rfl dX3_init_62 ?_
  unfold cr_nf
  rw [cr_sB_put (by decide)]
  show cr_V Γ 65 [.ref 27] [] (cr_nf I cr_I0 0 27 [0, 1, 0, 0, 0, 0, 0, 0, 0, 0, 0, 0, 0, 0, 0, 0, 0] 130) (cr_nf R cr_RF none 27 [some 28, none, some 129, none, none, none, none, none, none, none, none, none, none, none, none, none, none] 130) 130
  refine cr_aload_n h (j := 0) rfl rfl dX3_init_65 ?_
  refine cr_iconst h (v := (5 : Int32)) (by decide) dX3_init_66 ?_
  refine cr_newa h wA_int (N := 5) (by decide) (by decide) rfl (fun k => hZ.aI (by decide) (Nat.le_refl _)) ⟨⟨by decide, by decide, by decide, by decide⟩, rfl, rfl⟩ dX3_init_67 ?_
  rw [hZ.opI 5 (by decide), hZ.advR (n := 130) (m := 131) (by decide) (by decide) (by decide +kernel)]
  show cr_V Γ 69 [.ref 27] [.ref 130, .ref 27] (cr_sB (cr_nf I cr_I0 0 27 [0, 1, 0, 0, 0, 0, 0, 0, 0, 0, 0, 0, 0, 0, 0, 0, 0] 131) 0 130 [0, 0, 0, 0, 0]) (cr_nf R cr_RF none 27 [some 28, none, some 129, none, none, none, none, none, none, none, none, none, none, none, none, none, none] 131) 131
  refine cr_dup h rfl dX3_init_69 ?_
  refine cr_iconst h (v := (0 : Int32)) (by decide) dX3_init_70 ?_
  refine cr_bipush h (v := (10 : Int32)) (by decide) dX3_init_71 ?_
  refine cr_iast h (by decide) (by decide) rfl ⟨by decide, by decide⟩ dX3_init_73 ?_
  rw [cr_sB_put (by decide)]
  show cr_V Γ 74 [.ref 27] [.ref 130, .ref 27] (cr_sB (cr_nf I cr_I0 0 27 [0, 1, 0, 0, 0, 0, 0, 0, 0, 0, 0, 0, 0, 0, 0, 0, 0] 131) 0 130 [10, 0, 0, 0, 0]) (cr_nf R cr_RF none 27 [some 28, none, some 129, none, none, none, none, none, none, none, none, none, none, none, none, none, none] 131) 131
  refine cr_dup h rfl dX3_init_74 ?_
  refine cr_iconst h (v := (1 : Int32)) (by decide) dX3_init_75 ?_
  refine cr_bipush h (v := (20 : Int32)) (by decide) dX3_init_76 ?_
  refine cr_iast h (by decide) (by decide) rfl ⟨by decide, by decide⟩ dX3_init_78 ?_
  rw [cr_sB_put (by decide)]
  show cr_V Γ 79 [.ref 27] [.ref 130, .ref 27] (cr_sB (cr_nf I cr_I0 0 27 [0, 1, 0, 0, 0, 0, 0, 0, 0, 0, 0, 0, 0, 0, 0, 0, 0] 131) 0 130 [10, 20, 0, 0, 0]) (cr_nf R cr_RF none 27 [some 28, none, some 129, none, none, none, none, none, none, none, none, none, none, none, none, none, none] 131) 131
  refine cr_dup h rfl dX3_init_79 ?_
  refine cr_iconst h (v := (2 : Int32)) (by decide) dX3_init_80 ?_
  refine cr_iconst h (v := (1 : Int32)) (by decide) dX3_init_81 ?_
  refine cr_iast h (by decide) (by decide) rfl ⟨by decide, by decide⟩ dX3_init_82 ?_
  rw [cr_sB_put (by decide)]
  show cr_V Γ 83 [.ref 27] [.ref 130, .ref 27] (cr_sB (cr_nf I cr_I0 0 27 [0, 1, 0, 0, 0, 0, 0, 0, 0, 0, 0, 0, 0, 0, 0, 0, 0] 131) 0 130 [10, 20, 1, 0, 0]) (cr_nf R cr_RF none 27 [some 28, none, some 129, none, none, none, none, none, none, none, none, none, none, none, none, none, none] 131) 131
  refine cr_dup h rfl dX3_init_83 ?_
  refine cr_iconst h (v := (3 : Int32)) (by decide) dX3_init_84 ?_
  refine cr_iconst h (v := (2 : Int32)) (by decide) dX3_init_85 ?_
  refine cr_iast h (by decide) (by decide) rfl ⟨by decide, by decide⟩ dX3_init_86 ?_
  rw [cr_sB_put (by decide)]
  show cr_V Γ 87 [.ref 27] [.ref 130, .ref 27] (cr_sB (cr_nf I cr_I0 0 27 [0, 1, 0, 0, 0, 0, 0, 0, 0, 0, 0, 0, 0, 0, 0, 0, 0] 131) 0 130 [10, 20, 1, 2, 0]) (cr_nf R cr_RF none 27 [some 28, none, some 129, none, none, none, none, none, none, none, none, none, none, none, none, none, none] 131) 131
  refine cr_dup h rfl dX3_init_87 ?_
  refine cr_iconst h (v := (4 : Int32)) (by decide) dX3_init_88 ?_
  refine cr_iconst h (v := (1 : Int32)) (by decide) dX3_init_89 ?_
  refine cr_iast h (by decide) (by decide) rfl ⟨by decide, by decide⟩ dX3_init_90 ?_
  rw [cr_sB_put (by decide)]
  show cr_V Γ 91 [.ref 27] [.ref 130, .ref 27] (cr_sB (cr_nf I cr_I0 0 27 [0, 1, 0, 0, 0, 0, 0, 0, 0, 0, 0, 0, 0, 0, 0, 0, 0] 131) 0 130 [10, 20, 1, 2, 1]) (cr_nf R cr_RF none 27 [some 28, none, some 129, none, none, none, none, none, none, none, none, none, none, none, none, none, none] 131) 131
  rw [cr_nf_close (by decide) (by decide) (cr_I0_of (by decide +kernel))]
  refine cr_putRF h cr_clsX3 (k := 3) (by decide) (by decide) (Or.inr ⟨_, rfl⟩) rfl rfl rfl rfl wf_X3_26 (by decide) (by decide) rfl dX3_init_91 ?_
  unfold cr_nf
  rw [cr_sB_put (by decide)]
  show cr_V Γ 94 [.ref 27] [] (cr_nf I cr_I0 0 27 [0, 1, 0, 0, 0, 0, 0, 0, 0, 0, 0, 0, 0, 0, 0, 0, 0] 131) (cr_nf R cr_RF none 27 [some 28, none, some 129, some 130, none, none, none, none, none, none, none, none, none, none, none, none, none] 131) 131
  refine cr_aload_n h (j := 0) rfl rfl dX3_init_94 ?_
  refine cr_iconst h (v := (0 : Int32)) (by decide) dX3_init_95 ?_
  refine cr_putI h cr_clsX3 (k := 4) (by decide) (by decide) rfl rfl rfl wf_X3_29 (by decide) (by decide) rfl dX3_init_96 ?_
  unfold cr_nf
  rw [cr_sB_put (by decide)]
  show cr_V Γ 99 [.ref 27] [] (cr_nf I cr_I0 0 27 [0, 1, 0, 0, 0, 0, 0, 0, 0, 0, 0, 0, 0, 0, 0, 0, 0] 131) (cr_nf R cr_RF none 27 [some 28, none, some 129, some 130, none, none, none, none, none, none, none, none, none, none, none, none, none] 131) 131
  refine cr_aload_n h (j := 0) rfl rfl dX3_init_99 ?_
  refine cr_iconst h (v := (0 : Int32)) (by decide) dX3_init_100 ?_
  refine cr_putI h cr_clsX3 (k := 5) (by decide) (by decide) rfl rfl rfl wf_X3_32 (by decide) (by decide) rfl dX3_init_101 ?_
  unfold cr_nf
  rw [cr_sB_put (by decide)]
  show cr_V Γ 104 [.ref 27] [] (cr_nf I cr_I0 0 27 [0, 1, 0, 0, 0, 0, 0, 0, 0, 0, 0, 0, 0, 0, 0, 0, 0] 131) (cr_nf R cr_RF none 27 [some 28, none, some 129, some 130, none, none, none, none, none, none, none, none, none, none, none, none, none] 131) 131
  refine cr_aload_n h (j := 0) rfl rfl dX3_init_104 ?_
  refine cr_bipush h (v := (8 : Int32)) (by decide) dX3_init_105 ?_
  refine cr_newa h wA_int (N := 8) (by decide) (by decide) rfl (fun k => hZ.aI (by decide) (Nat.le_refl _)) ⟨⟨by decide, by decide, by decide, by decide⟩, rfl, rfl⟩ dX3_init_107 ?_
  rw [hZ.advI (n := 131) (m := 132) (by decide) (by decide) (by decide +kernel), hZ.advR (n := 131) (m := 132) (by decide) (by decide) (by decide +kernel)]
  show cr_V Γ 109 [.ref 27] [.ref 131, .ref 27] (cr_nf I cr_I0 0 27 [0, 1, 0, 0, 0, 0, 0, 0, 0, 0, 0, 0, 0, 0, 0, 0, 0] 132) (cr_nf R cr_RF none 27 [some 28, none, some 129, some 130, none, none, none, none, none, none, none, none, none, none, none, none, none] 132) 132
  refine cr_putRF h cr_clsX3 (k := 6) (by decide) (by decide) (Or.inr ⟨_, rfl⟩) rfl rfl rfl rfl wf_X3_35 (by decide) (by decide) rfl dX3_init_109 ?_
  unfold cr_nf
  rw [cr_sB_put (by decide)]
  show cr_V Γ 112 [.ref 27] [] (cr_nf I cr_I0 0 27 [0, 1, 0, 0, 0, 0, 0, 0, 0, 0, 0, 0, 0, 0, 0, 0, 0] 132) (cr_nf R cr_RF none 27 [some 28, none, some 129, some 130, none, none, some 131, none, none, none, none, none, none, none, none, none, none] 132) 132
  refine cr_aload_n h (j := 0) rfl rfl dX3_init_112 ?_
  refine cr_bipush h (v := (8 : Int32)) (by decide) dX3_init_113 ?_
  refine cr_newa h wA_int (N := 8) (by decide) (by decide) rfl (fun k => hZ.aI (by decide) (Nat.le_refl _)) ⟨⟨by decide, by decide, by decide, by decide⟩, rfl, rfl⟩ dX3_init_115 ?_
  rw [hZ.advI (n := 132) (m := 133) (by decide) (by decide) (by decide +kernel), hZ.advR (n := 132) (m := 133) (by decide) (by decide) (by decide +kernel)]
  show cr_V Γ 117 [.ref 27] [.ref 132, .ref 27] (cr_nf I cr_I0 0 27 [0, 1, 0, 0, 0, 0, 0, 0, 0, 0, 0, 0, 0, 0, 0, 0, 0] 133) (cr_nf R cr_RF none 27 [some 28, none, some 129, some 130, none, none, some 131, none, none, none, none, none, none, none, none, none, none] 133) 133
  refine cr_putRF h cr_clsX3 (k := 7) (by decide) (by decide) (Or.inr ⟨_, rfl⟩) rfl rfl rfl rfl wf_X3_38 (by decide) (by decide) rfl dX3_init_117 ?_
  unfold cr_nf
  rw [cr_sB_put (by decide)]
  show cr_V Γ 120 [.ref 27] [] (cr_nf I cr_I0 0 27 [0, 1, 0, 0, 0, 0, 0, 0, 0, 0, 0, 0, 0, 0, 0, 0, 0] 133) (cr_nf R cr_RF none 27 [some 28, none, some 129, some 130, none, none, some 131, some 132, none, none, none, none, none, none, none, none, none] 133) 133
  refine cr_aload_n h (j := 0) rfl rfl dX3_init_120 ?_
  refine cr_iconst h (v := (0 : Int32)) (by decide) dX3_init_121 ?_
  refine cr_putI h cr_clsX3 (k := 8) (by decide) (by decide) rfl rfl rfl wf_X3_41 (by decide) (by decide) rfl dX3_init_122 ?_
  unfold cr_nf
  rw [cr_sB_put (by decide)]
  show cr_V Γ 125 [.ref 27] [] (cr_nf I cr_I0 0 27 [0, 1, 0, 0, 0, 0, 0, 0, 0, 0, 0, 0, 0, 0, 0, 0, 0] 133) (cr_nf R cr_RF none 27 [some 28, none, some 129, some 130, none, none, some 131, some 132, none, none, none, none, none, none, none, none, none] 133) 133
  refine cr_aload_n h (j := 0) rfl rfl dX3_init_125 ?_
  refine cr_iconst h (v := (2 : Int32)) (by decide) dX3_init_126 ?_
  refine cr_newa h wA_int (N := 2) (by decide) (by decide) rfl (fun k => hZ.aI (by decide) (Nat.le_refl _)) ⟨⟨by decide, by decide, by decide, by decide⟩, rfl, rfl⟩ dX3_init_127 ?_
  rw [hZ.advI (n := 133) (m := 134) (by decide) (by decide) (by decide +kernel), hZ.advR (n := 133) (m := 134) (by decide) (by decide) (by decide +kernel)]
  show cr_V Γ 129 [.ref 27] [.ref 133, .ref 27] (cr_nf I cr_I0 0 27 [0, 1, 0, 0, 0, 0, 0, 0, 0, 0, 0, 0, 0, 0, 0, 0, 0] 134) (cr_nf R cr_RF none 27 [some 28, none, some 129, some 130, none, none, some 131, some 132, none, none, none, none, none, none, none, none, none] 134) 134
  refine cr_putRF h cr_clsX3 (k := 9) (by decide) (by decide) (Or.inr ⟨_, rfl⟩) rfl rfl rfl rfl wf_X3_44 (by decide) (by decide) rfl dX3_init_129 ?_
  unfold cr_nf
  rw [cr_sB_put (by decide)]
  show cr_V Γ 132 [.ref 27] [] (cr_nf I cr_I0 0 27 [0, 1, 0, 0, 0, 0, 0, 0, 0, 0, 0, 0, 0, 0, 0, 0, 0] 134) (cr_nf R cr_RF none 27 [some 28, none, some 129, some 130, none, none, some 131, some 132, none, some 133, none, none, none, none, none, none, none] 134) 134
  refine cr_aload_n h (j := 0) rfl rfl dX3_init_132 ?_
  refine cr_iconst h (v := (2 : Int32)) (by decide) dX3_init_133 ?_
  refine cr_newa h wA_int (N := 2) (by decide) (by decide) rfl (fun k => hZ.aI (by decide) (Nat.le_refl _)) ⟨⟨by decide, by decide, by decide, by decide⟩, rfl, rfl⟩ dX3_init_134 ?_
  rw [hZ.advI (n := 134) (m := 135) (by decide) (by decide) (by decide +kernel), hZ.advR (n := 134) (m := 135) (by decide) (by decide) (by decide +kernel)]
  show cr_V Γ 136 [.ref 27] [.ref 134, .ref 27] (cr_nf I cr_I0 0 27 [0, 1, 0, 0, 0, 0, 0, 0, 0, 0, 0, 0, 0, 0, 0, 0, 0] 135) (cr_nf R cr_RF none 27 [some 28, none, some 129, some 130, none, none, some 131, some 132, none, some 133, none, none, none, none, none, none, none] 135) 135
  refine cr_putRF h cr_clsX3 (k := 10) (by decide) (by decide) (Or.inr ⟨_, rfl⟩) rfl rfl rfl rfl wf_X3_47 (by decide) (by decide) rfl dX3_init_136 ?_
  unfold cr_nf
  rw [cr_sB_put (by decide)]
  show cr_V Γ 139 [.ref 27] [] (cr_nf I cr_I0 0 27 [0, 1, 0, 0, 0, 0, 0, 0, 0, 0, 0, 0, 0, 0, 0, 0, 0] 135) (cr_nf R cr_RF none 27 [some 28, none, some 129, some 130, none, none, some 131, some 132, none, some 133, some 134, none, none, none, none, none, none] 135) 135
  refine cr_aload_n h (j := 0) rfl rfl dX3_init_139 ?_
  refine cr_iconst h (v := (2 : Int32)) (by decide) dX3_init_140 ?_
  refine cr_newa h wA_int (N := 2) (by decide) (by decide) rfl (fun k => hZ.aI (by decide) (Nat.le_refl _)) ⟨⟨by decide, by decide, by decide, by decide⟩, rfl, rfl⟩ dX3_init_141 ?_
  rw [hZ.advI (n := 135) (m := 136) (by decide) (by decide) (by decide +kernel), hZ.advR (n := 135) (m := 136) (by decide) (by decide) (by decide +kernel)]
  show cr_V Γ 143 [.ref 27] [.ref 135, .ref 27] (cr_nf I cr_I0 0 27 [0, 1, 0, 0, 0, 0, 0, 0, 0, 0, 0, 0, 0, 0, 0, 0, 0] 136) (cr_nf R cr_RF none 27 [some 28, none, some 129, some 130, none, none, some 131, some 132, none, some 133, some 134, none, none, none, none, none, none] 136) 136
  refine cr_putRF h cr_clsX3 (k := 11) (by decide) (by decide) (Or.inr ⟨_, rfl⟩) rfl rfl rfl rfl wf_X3_50 (by decide) (by decide) rfl dX3_init_143 ?_
  unfold cr_nf
  rw [cr_sB_put (by decide)]
  show cr_V Γ 146 [.ref 27] [] (cr_nf I cr_I0 0 27 [0, 1, 0, 0, 0, 0, 0, 0, 0, 0, 0, 0, 0, 0, 0, 0, 0] 136) (cr_nf R cr_RF none 27 [some 28, none, some 129, some 130, none, none, some 131, some 132, none, some 133, some 134, some 135, none, none, none, none, none] 136) 136
  refine cr_aload_n h (j := 0) rfl rfl dX3_init_146 ?_
  refine cr_iconst h (v := (2 : Int32)) (by decide) dX3_init_147 ?_
  refine cr_newa h wA_int (N := 2) (by decide) (by decide) rfl (fun k => hZ.aI (by decide) (Nat.le_refl _)) ⟨⟨by decide, by decide, by decide, by decide⟩, rfl, rfl⟩ dX3_init_148 ?_
  rw [hZ.advI (n := 136) (m := 137) (by decide) (by decide) (by decide +kernel), hZ.advR (n := 136) (m := 137) (by decide) (by decide) (by decide +kernel)]
  show cr_V Γ 150 [.ref 27] [.ref 136, .ref 27] (cr_nf I cr_I0 0 27 [0, 1, 0, 0, 0, 0, 0, 0, 0, 0, 0, 0, 0, 0, 0, 0, 0] 137) (cr_nf R cr_RF none 27 [some 28, none, some 129, some 130, none, none, some 131, some 132, none, some 133, some 134, some 135, none, none, none, none, none] 137) 137
  refine cr_putRF h cr_clsX3 (k := 12) (by decide) (by decide) (Or.inr ⟨_, rfl⟩) rfl rfl rfl rfl wf_X3_53 (by decide) (by decide) rfl dX3_init_150 ?_
  unfold cr_nf
  rw [cr_sB_put (by decide)]
  show cr_V Γ 153 [.ref 27] [] (cr_nf I cr_I0 0 27 [0, 1, 0, 0, 0, 0, 0, 0, 0, 0, 0, 0, 0, 0, 0, 0, 0] 137) (cr_nf R cr_RF none 27 [some 28, none, some 129, some 130, none, none, some 131, some 132, none, some 133, some 134, some 135, some 136, none, none, none, none] 137) 137
  refine cr_aload_n h (j := 0) rfl rfl dX3_init_153 ?_
  refine cr_iconst h (v := (0 : Int32)) (by decide) dX3_init_154 ?_
  refine cr_putI h cr_clsX3 (k := 13) (by decide) (by decide) rfl rfl rfl wf_X3_56 (by decide) (by decide) rfl dX3_init_155 ?_
  unfold cr_nf
  rw [cr_sB_put (by decide)]
  show cr_V Γ 158 [.ref 27] [] (cr_nf I cr_I0 0 27 [0, 1, 0, 0, 0, 0, 0, 0, 0, 0, 0, 0, 0, 0, 0, 0, 0] 137) (cr_nf R cr_RF none 27 [some 28, none, some 129, some 130, none, none, some 131, some 132, none, some 133, some 134, some 135, some 136, none, none, none, none] 137) 137
  refine cr_aload_n h (j := 0) rfl rfl dX3_init_158 ?_
  refine cr_iconst h (v := (0 : Int32)) (by decide) dX3_init_159 ?_
  refine cr_putI h cr_clsX3 (k := 14) (by decide) (by decide) rfl rfl rfl wf_X3_59 (by decide) (by decide) rfl dX3_init_160 ?_
  unfold cr_nf
  rw [cr_sB_put (by decide)]
  show cr_V Γ 163 [.ref 27] [] (cr_nf I cr_I0 0 27 [0, 1, 0, 0, 0, 0, 0, 0, 0, 0, 0, 0, 0, 0, 0, 0, 0] 137) (cr_nf R cr_RF none 27 [some 28, none, some 129, some 130, none, none, some 131, some 132, none, some 133, some 134, some 135, some 136, none, none, none, none] 137) 137
  refine cr_aload_n h (j := 0) rfl rfl dX3_init_163 ?_
  refine cr_iconst h (v := (0 : Int32)) (by decide) dX3_init_164 ?_
  refine cr_putI h cr_clsX3 (k := 15) (by decide) (by decide) rfl rfl rfl wf_X3_62 (by decide) (by decide) rfl dX3_init_165 ?_
  unfold cr_nf
  rw [cr_sB_put (by decide)]
  show cr_V Γ 168 [.ref 27] [] (cr_nf I cr_I0 0 27 [0, 1, 0, 0, 0, 0, 0, 0, 0, 0, 0, 0, 0, 0, 0, 0, 0] 137) (cr_nf R cr_RF none 27 [some 28, none, some 129, some 130, none, none, some 131, some 132, none, some 133, some 134, some 135, some 136, none, none, none, none] 137) 137
  refine cr_aload_n h (j := 0) rfl rfl dX3_init_168 ?_
  refine cr_iconst h (v := (0 : Int32)) (by decide) dX3_init_169 ?_
  refine cr_putI h cr_clsX3 (k := 16) (by decide) (by decide) rfl rfl rfl wf_X3_65 (by decide) (by decide) rfl dX3_init_170 ?_
  unfold cr_nf
  rw [cr_sB_put (by decide)]
  show cr_V Γ 173 [.ref 27] [] (cr_nf I cr_I0 0 27 [0, 1, 0, 0, 0, 0, 0, 0, 0, 0, 0, 0, 0, 0, 0, 0, 0] 137) (cr_nf R cr_RF none 27 [some 28, none, some 129, some 130, none, none, some 131, some 132, none, some 133, some 134, some 135, some 136, none, none, none, none] 137) 137
  rw [cr_nf_end (by decide) (cr_I0_of (by decide +kernel)), cr_nf_end (by decide) (cr_RF_of (by decide +kernel))]
  exact cr_vret h rfl rfl dX3_init_173 hK
abbrev T_yX4_init_137 : cr_T := fun vs I R K => vs = [.ref 137] ∧ cr_Z0 137 I R ∧ K none (cr_mix I 137 169 cr_I0) (cr_mix R 137 169 cr_RF)
theorem C_yX4_init_137 : cr_C yX4_init cX4_init 1 none (cr_rmC 1 20 138 169) 138 169 T_yX4_init_137 := by
  refine cr_C.of (by decide +kernel) (fun vs I R K hT => by obtain ⟨rfl, -, -⟩ := hT; exact Nat.le_of_ble_eq_true rfl) (fun Γ K h vs I R hT => ?_)
  obtain ⟨rfl, hZ, hK⟩ := hT
  show cr_V Γ 0 [.ref 137] [] I R 138
  refine cr_V_eq (cr_nf_start cr_I0 10 (fun k => hZ.1 137 (Nat.le_refl _) k)) (cr_nf_start cr_RF 10 (fun k => hZ.no (by decide +kernel) k)) ?_
  show cr_V Γ 0 [.ref 137] [] (cr_nf I cr_I0 0 137 [0, 0, 0, 0, 0, 0, 0, 0, 0, 0] 138) (cr_nf R cr_RF none 137 [none, none, none, none, none, none, none, none, none, none] 138) 138
  refine cr_aload_n h (j := 0) rfl rfl dX4_init_0 ?_
  refine cr_objI h wm_X4_3 wv_objectInit cr_oc (Nat.le_of_ble_eq_true rfl) ⟨by decide, by decide⟩ dX4_init_1 ?_
  refine cr_aload_n h (j := 0) rfl rfl dX4_init_4 ?_
  refine cr_bipush h (v := (6 : Int32)) (by decide) dX4_init_5 ?_
  refine cr_bipush h (v := (33 : Int32)) (by decide) dX4_init_7 ?_
  refine cr_mna h wl_X4_9 wA_int (N := 6) (M := 33) (by decide) (by decide) (by decide) (by decide) rfl (by decide +kernel) (fun j hj => (hZ.aR (by decide) (Nat.le_refl _)).trans ((show ∀ j, j < 6 → cr_R0 138 j = some (138 + 1 + j) by decide +kernel) j hj)) (fun j _ k => hZ.aI (by decide) (by omega)) ⟨⟨by decide, by decide, by decide, by decide⟩, rfl, rfl⟩ dX4_init_9 ?_
  rw [hZ.advI (n := 138) (m := 145) (by decide) (by decide) (by decide +kernel), hZ.advR (n := 138) (m := 145) (by decide) (by decide) (by decide +kernel)]
  show cr_V Γ 13 [.ref 137] [.ref 138, .ref 137] (cr_nf I cr_I0 0 137 [0, 0, 0, 0, 0, 0, 0, 0, 0, 0] 145) (cr_nf R cr_RF none 137 [none, none, none, none, none, none, none, none, none, none] 145) 145
  refine cr_putRF h cr_clsX4 (k := 0) (by decide) (by decide) (Or.inr ⟨_, rfl⟩) rfl rfl rfl rfl wf_X4_11 (by decide) (by decide) rfl dX4_init_13 ?_
  unfold cr_nf
  rw [cr_sB_put (by decide)]
  show cr_V Γ 16 [.ref 137] [] (cr_nf I cr_I0 0 137 [0, 0, 0, 0, 0, 0, 0, 0, 0, 0] 145) (cr_nf R cr_RF none 137 [some 138, none, none, none, none, none, none, none, none, none] 145) 145
  refine cr_aload_n h (j := 0) rfl rfl dX4_init_16 ?_
  refine cr_bipush h (v := (6 : Int32)) (by decide) dX4_init_17 ?_
  refine cr_bipush h (v := (33 : Int32)) (by decide) dX4_init_19 ?_
  refine cr_mna h wl_X4_9 wA_int (N := 6) (M := 33) (by decide) (by decide) (by decide) (by decide) rfl (by decide +kernel) (fun j hj => (hZ.aR (by decide) (Nat.le_refl _)).trans ((show ∀ j, j < 6 → cr_R0 145 j = some (145 + 1 + j) by decide +kernel) j hj)) (fun j _ k => hZ.aI (by decide) (by omega)) ⟨⟨by decide, by decide, by decide, by decide⟩, rfl, rfl⟩ dX4_init_21 ?_
  rw [hZ.advI (n := 145) (m := 152) (by decide) (by decide) (by decide +kernel), hZ.advR (n := 145) (m := 152) (by decide) (by decide) (by decide +kernel)]
  show cr_V Γ 25 [.ref 137] [.ref 145, .ref 137] (cr_nf I cr_I0 0 137 [0, 0, 0, 0, 0, 0, 0, 0, 0, 0] 152) (cr_nf R cr_RF none 137 [some 138, none, none, none, none, none, none, none, none, none] 152) 152
  refine cr_putRF h cr_clsX4 (k := 1) (by decide) (by decide) (Or.inr ⟨_, rfl⟩) rfl rfl rfl rfl wf_X4_16 (by decide) (by decide) rfl dX4_init_25 ?_
  unfold cr_nf
  rw [cr_sB_put (by decide)]
  show cr_V Γ 28 [.ref 137] [] (cr_nf I cr_I0 0 137 [0, 0, 0, 0, 0, 0, 0, 0, 0, 0] 152) (cr_nf R cr_RF none 137 [some 138, some 145, none, none, none, none, none, none, none, none] 152) 152
  refine cr_aload_n h (j := 0) rfl rfl dX4_init_28 ?_
  refine cr_bipush h (v := (6 : Int32)) (by decide) dX4_init_29 ?_
  refine cr_bipush h (v := (33 : Int32)) (by decide) dX4_init_31 ?_
  refine cr_mna h wl_X4_9 wA_int (N := 6) (M := 33) (by decide) (by decide) (by decide) (by decide) rfl (by decide +kernel) (fun j hj => (hZ.aR (by decide) (Nat.le_refl _)).trans ((show ∀ j, j < 6 → cr_R0 152 j = some (152 + 1 + j) by decide +kernel) j hj)) (fun j _ k => hZ.aI (by decide) (by omega)) ⟨⟨by decide, by decide, by decide, by decide⟩, rfl, rfl⟩ dX4_init_33 ?_
  rw [hZ.advI (n := 152) (m := 159) (by decide) (by decide) (by decide +kernel), hZ.advR (n := 152) (m := 159) (by decide) (by decide) (by decide +kernel)]
  show cr_V Γ 37 [.ref 137] [.ref 152, .ref 137] (cr_nf I cr_I0 0 137 [0, 0, 0, 0, 0, 0, 0, 0, 0, 0] 159) (cr_nf R cr_RF none 137 [some 138, some 145, none, none, none, none, none, none, none, none] 159) 159
  refine cr_putRF h cr_clsX4 (k := 2) (by decide) (by decide) (Or.inr ⟨_, rfl⟩) rfl rfl rfl rfl wf_X4_19 (by decide) (by decide) rfl dX4_init_37 ?_
  unfold cr_nf
  rw [cr_sB_put (by decide)]
  show cr_V Γ 40 [.ref 137] [] (cr_nf I cr_I0 0 137 [0, 0, 0, 0, 0, 0, 0, 0, 0, 0] 159) (cr_nf R cr_RF none 137 [some 138, some 145, some 152, none, none, none, none, none, none, none] 159) 159
  refine cr_aload_n h (j := 0) rfl rfl dX4_init_40 ?_
  refine cr_bipush h (v := (6 : Int32)) (by decide) dX4_init_41 ?_
  refine cr_bipush h (v := (32 : Int32)) (by decide) dX4_init_43 ?_
  refine cr_mna h wl_X4_9 wA_int (N := 6) (M := 32) (by decide) (by decide) (by decide) (by decide) rfl (by decide +kernel) (fun j hj => (hZ.aR (by decide) (Nat.le_refl _)).trans ((show ∀ j, j < 6 → cr_R0 159 j = some (159 + 1 + j) by decide +kernel) j hj)) (fun j _ k => hZ.aI (by decide) (by omega)) ⟨⟨by decide, by decide, by decide, by decide⟩, rfl, rfl⟩ dX4_init_45 ?_
  rw [hZ.advI (n := 159) (m := 166) (by decide) (by decide) (by decide +kernel), hZ.advR (n := 159) (m := 166) (by decide) (by decide) (by decide +kernel)]
  show cr_V Γ 49 [.ref 137] [.ref 159, .ref 137] (cr_nf I cr_I0 0 137 [0, 0, 0, 0, 0, 0, 0, 0, 0, 0] 166) (cr_nf R cr_RF none 137 [some 138, some 145, some 152, none, none, none, none, none, none, none] 166) 166
  refine cr_putRF h cr_clsX4 (k := 3) (by decide) (by decide) (Or.inr ⟨_, rfl⟩) rfl rfl rfl rfl wf_X4_22 (by decide) (by decide) rfl dX4_init_49 ?_
  unfold cr_nf
  rw [cr_sB_put (by decide)]
  show cr_V Γ 52 [.ref 137] [] (cr_nf I cr_I0 0 137 [0, 0, 0, 0, 0, 0, 0, 0, 0, 0] 166) (cr_nf R cr_RF none 137 [some 138, some 145, some 152, some 159, none, none, none, none, none, none] 166) 166
  refine cr_aload_n h (j := 0) rfl rfl dX4_init_52 ?_
  refine cr_bipush h (v := (32 : Int32)) (by decide) dX4_init_53 ?_
  refine cr_newa h wA_int (N := 32) (by decide) (by decide) rfl (fun k => hZ.aI (by decide) (Nat.le_refl _)) ⟨⟨by decide, by decide, by decide, by decide⟩, rfl, rfl⟩ dX4_init_55 ?_
  rw [hZ.advI (n := 166) (m := 167) (by decide) (by decide) (by decide +kernel), hZ.advR (n := 166) (m := 167) (by decide) (by decide) (by decide +kernel)]
  show cr_V Γ 57 [.ref 137] [.ref 166, .ref 137] (cr_nf I cr_I0 0 137 [0, 0, 0, 0, 0, 0, 0, 0, 0, 0] 167) (cr_nf R cr_RF none 137 [some 138, some 145, some 152, some 159, none, none, none, none, none, none] 167) 167
  refine cr_putRF h cr_clsX4 (k := 4) (by decide) (by decide) (Or.inr ⟨_, rfl⟩) rfl rfl rfl rfl wf_X4_25 (by decide) (by decide) rfl dX4_init_57 ?_
  unfold cr_nf
  rw [cr_sB_put (by decide)]
  show cr_V Γ 60 [.ref 137] [] (cr_nf I cr_I0 0 137 [0, 0, 0, 0, 0, 0, 0, 0, 0, 0] 167) (cr_nf R cr_RF none 137 [some 138, some 145, some 152, some 159, some 166, none, none, none, none, none] 167) 167
  refine cr_aload_n h (j := 0) rfl rfl dX4_init_60 ?_
  refine cr_bipush h (v := (32 : Int32)) (by decide) dX4_init_61 ?_
  refine cr_newa h wA_int (N := 32) (by decide) (by decide) rfl (fun k => hZ.aI (by decide) (Nat.le_refl _)) ⟨⟨by decide, by decide, by decide, by decide⟩, rfl, rfl⟩ dX4_init_63 ?_
  rw [hZ.advI (n := 167) (m := 168) (by decide) (by decide) (by decide +kernel), hZ.advR (n := 167) (m := 168) (by decide) (by decide) (by decide +kernel)]
  show cr_V Γ 65 [.ref 137] [.ref 167, .ref 137] (cr_nf I cr_I0 0 137 [0, 0, 0, 0, 0, 0, 0, 0, 0, 0] 168) (cr_nf R cr_RF none 137 [some 138, some 145, some 152, some 159, some 166, none, none, none, none, none] 168) 168
  refine cr_putRF h cr_clsX4 (k := 5) (by decide) (by decide) (Or.inr ⟨_, rfl⟩) rfl rfl rfl rfl wf_X4_29 (by decide) (by decide) rfl dX4_init_65 ?_
  unfold cr_nf
  rw [cr_sB_put (by decide)]
  show cr_V Γ 68 [.ref 137] [] (cr_nf I cr_I0 0 137 [0, 0, 0, 0, 0, 0, 0, 0, 0, 0] 168) (cr_nf R cr_RF none 137 [some 138, some 145, some 152, some 159, some 166, some 167, none, none, none, none] 168) 168
  refine cr_aload_n h (j := 0) rfl rfl dX4_init_68 ?_
  refine cr_iconst h (v := (-1 : Int32)) (by decide) dX4_init_69 ?_
  refine cr_putI h cr_clsX4 (k := 6) (by decide) (by decide) rfl rfl rfl wf_X4_32 (by decide) (by decide) rfl dX4_init_70 ?_
  unfold cr_nf
  rw [cr_sB_put (by decide)]
  show cr_V Γ 73 [.ref 137] [] (cr_nf I cr_I0 0 137 [0, 0, 0, 0, 0, 0, (-1), 0, 0, 0] 168) (cr_nf R cr_RF none 137 [some 138, some 145, some 152, some 159, some 166, some 167, none, none, none, none] 168) 168
  refine cr_aload_n h (j := 0) rfl rfl dX4_init_73 ?_
  refine cr_iconst h (v := (-1 : Int32)) (by decide) dX4_init_74 ?_
  refine cr_putI h cr_clsX4 (k := 7) (by decide) (by decide) rfl rfl rfl wf_X4_36 (by decide) (by decide) rfl dX4_init_75 ?_
  unfold cr_nf
  rw [cr_sB_put (by decide)]
  show cr_V Γ 78 [.ref 137] [] (cr_nf I cr_I0 0 137 [0, 0, 0, 0, 0, 0, (-1), (-1), 0, 0] 168) (cr_nf R cr_RF none 137 [some 138, some 145, some 152, some 159, some 166, some 167, none, none, none, none] 168) 168
  refine cr_aload_n h (j := 0) rfl rfl dX4_init_78 ?_
  refine cr_bipush h (v := (6 : Int32)) (by decide) dX4_init_79 ?_
  refine cr_newa h wA_int (N := 6) (by decide) (by decide) rfl (fun k => hZ.aI (by decide) (Nat.le_refl _)) ⟨⟨by decide, by decide, by decide, by decide⟩, rfl, rfl⟩ dX4_init_81 ?_
  rw [hZ.advI (n := 168) (m := 169) (by decide) (by decide) (by decide +kernel), hZ.advR (n := 168) (m := 169) (by decide) (by decide) (by decide +kernel)]
  show cr_V Γ 83 [.ref 137] [.ref 168, .ref 137] (cr_nf I cr_I0 0 137 [0, 0, 0, 0, 0, 0, (-1), (-1), 0, 0] 169) (cr_nf R cr_RF none 137 [some 138, some 145, some 152, some 159, some 166, some 167, none, none, none, none] 169) 169
  refine cr_putRF h cr_clsX4 (k := 8) (by decide) (by decide) (Or.inr ⟨_, rfl⟩) rfl rfl rfl rfl wf_X4_39 (by decide) (by decide) rfl dX4_init_83 ?_
  unfold cr_nf
  rw [cr_sB_put (by decide)]
  show cr_V Γ 86 [.ref 137] [] (cr_nf I cr_I0 0 137 [0, 0, 0, 0, 0, 0, (-1), (-1), 0, 0] 169) (cr_nf R cr_RF none 137 [some 138, some 145, some 152, some 159, some 166, some 167, none, none, some 168, none] 169) 169
  refine cr_aload_n h (j := 0) rfl rfl dX4_init_86 ?_
  refine cr_iconst h (v := (0 : Int32)) (by decide) dX4_init_87 ?_
  refine cr_putI h cr_clsX4 (k := 9) (by decide) (by decide) rfl rfl rfl wf_X4_42 (by decide) (by decide) rfl dX4_init_88 ?_
  unfold cr_nf
  rw [cr_sB_put (by decide)]
  show cr_V Γ 91 [.ref 137] [] (cr_nf I cr_I0 0 137 [0, 0, 0, 0, 0, 0, (-1), (-1), 0, 0] 169) (cr_nf R cr_RF none 137 [some 138, some 145, some 152, some 159, some 166, some 167, none, none, some 168, none] 169) 169
  rw [cr_nf_end (by decide) (cr_I0_of (by decide +kernel)), cr_nf_end (by decide) (cr_RF_of (by decide +kernel))]
  exact cr_vret h rfl rfl dX4_init_91 hK
abbrev T_yX1_init_169 : cr_T := fun vs I R K => vs = [.ref 169] ∧ cr_Z0 169 I R ∧ K none (cr_mix I 169 177 cr_I0) (cr_mix R 169 177 cr_RF)
theorem C_yX1_init_169 : cr_C yX1_init cX1_init 1 none (cr_rmC 1 20 170 177) 170 177 T_yX1_init_169 := by
  refine cr_C.of (by decide +kernel) (fun vs I R K hT => by obtain ⟨rfl, -, -⟩ := hT; exact Nat.le_of_ble_eq_true rfl) (fun Γ K h vs I R hT => ?_)
  obtain ⟨rfl, hZ, hK⟩ := hT
  show cr_V Γ 0 [.ref 169] [] I R 170
  refine cr_V_eq (cr_nf_start cr_I0 8 (fun k => hZ.1 169 (Nat.le_refl _) k)) (cr_nf_start cr_RF 8 (fun k => hZ.no (by decide +kernel) k)) ?_
  show cr_V Γ 0 [.ref 169] [] (cr_nf I cr_I0 0 169 [0, 0, 0, 0, 0, 0, 0, 0] 170) (cr_nf R cr_RF none 169 [none, none, none, none, none, none, none, none] 170) 170
  refine cr_aload_n h (j := 0) rfl rfl dX1_init_0 ?_
  refine cr_objI h wm_X1_3 wv_objectInit cr_oc (Nat.le_of_ble_eq_true rfl) ⟨by decide, by decide⟩ dX1_init_1 ?_
  refine cr_aload_n h (j := 0) rfl rfl dX1_init_4 ?_
  refine cr_iconst h (v := (0 : Int32)) (by decide) dX1_init_5 ?_
  refine cr_putI h cr_clsX1 (k := 0) (by decide) (by decide) rfl rfl rfl wf_X1_9 (by decide) (by decide) rfl dX1_init_6 ?_
  unfold cr_nf
  rw [cr_sB_put (by decide)]
  show cr_V Γ 9 [.ref 169] [] (cr_nf I cr_I0 0 169 [0, 0, 0, 0, 0, 0, 0, 0] 170) (cr_nf R cr_RF none 169 [none, none, none, none, none, none, none, none] 170) 170
  refine cr_aload_n h (j := 0) rfl rfl dX1_init_9 ?_
  refine cr_iconst h (v := (5 : Int32)) (by decide) dX1_init_10 ?_
  refine cr_newa h wA_int (N := 5) (by decide) (by decide) rfl (fun k => hZ.aI (by decide) (Nat.le_refl _)) ⟨⟨by decide, by decide, by decide, by decide⟩, rfl, rfl⟩ dX1_init_11 ?_
  rw [hZ.advI (n := 170) (m := 171) (by decide) (by decide) (by decide +kernel), hZ.advR (n := 170) (m := 171) (by decide) (by decide) (by decide +kernel)]
  show cr_V Γ 13 [.ref 169] [.ref 170, .ref 169] (cr_nf I cr_I0 0 169 [0, 0, 0, 0, 0, 0, 0, 0] 171) (cr_nf R cr_RF none 169 [none, none, none, none, none, none, none, none] 171) 171
  refine cr_putRF h cr_clsX1 (k := 1) (by decide) (by decide) (Or.inr ⟨_, rfl⟩) rfl rfl rfl rfl wf_X1_15 (by decide) (by decide) rfl dX1_init_13 ?_
  unfold cr_nf
  rw [cr_sB_put (by decide)]
  show cr_V Γ 16 [.ref 169] [] (cr_nf I cr_I0 0 169 [0, 0, 0, 0, 0, 0, 0, 0] 171) (cr_nf R cr_RF none 169 [none, some 170, none, none, none, none, none, none] 171) 171
  refine cr_aload_n h (j := 0) rfl rfl dX1_init_16 ?_
  refine cr_iconst h (v := (5 : Int32)) (by decide) dX1_init_17 ?_
  refine cr_newa h wA_int (N := 5) (by decide) (by decide) rfl (fun k => hZ.aI (by decide) (Nat.le_refl _)) ⟨⟨by decide, by decide, by decide, by decide⟩, rfl, rfl⟩ dX1_init_18 ?_
  rw [hZ.advI (n := 171) (m := 172) (by decide) (by decide) (by decide +kernel), hZ.advR (n := 171) (m := 172) (by decide) (by decide) (by decide +kernel)]
  show cr_V Γ 20 [.ref 169] [.ref 171, .ref 169] (cr_nf I cr_I0 0 169 [0, 0, 0, 0, 0, 0, 0, 0] 172) (cr_nf R cr_RF none 169 [none, some 170, none, none, none, none, none, none] 172) 172
  refine cr_putRF h cr_clsX1 (k := 2) (by decide) (by decide) (Or.inr ⟨_, rfl⟩) rfl rfl rfl rfl wf_X1_19 (by decide) (by decide) rfl dX1_init_20 ?_
  unfold cr_nf
  rw [cr_sB_put (by decide)]
  show cr_V Γ 23 [.ref 169] [] (cr_nf I cr_I0 0 169 [0, 0, 0, 0, 0, 0, 0, 0] 172) (cr_nf R cr_RF none 169 [none, some 170, some 171, none, none, none, none, none] 172) 172
  refine cr_aload_n h (j := 0) rfl rfl dX1_init_23 ?_
  refine cr_iconst h (v := (5 : Int32)) (by decide) dX1_init_24 ?_
  refine cr_newa h wA_int (N := 5) (by decide) (by decide) rfl (fun k => hZ.aI (by decide) (Nat.le_refl _)) ⟨⟨by decide, by decide, by decide, by decide⟩, rfl, rfl⟩ dX1_init_25 ?_
  rw [hZ.advI (n := 172) (m := 173) (by decide) (by decide) (by decide +kernel), hZ.advR (n := 172) (m := 173) (by decide) (by decide) (by decide +kernel)]
  show cr_V Γ 27 [.ref 169] [.ref 172, .ref 169] (cr_nf I cr_I0 0 169 [0, 0, 0, 0, 0, 0, 0, 0] 173) (cr_nf R cr_RF none 169 [none, some 170, some 171, none, none, none, none, none] 173) 173
  refine cr_putRF h cr_clsX1 (k := 3) (by decide) (by decide) (Or.inr ⟨_, rfl⟩) rfl rfl rfl rfl wf_X1_22 (by decide) (by decide) rfl dX1_init_27 ?_
  unfold cr_nf
  rw [cr_sB_put (by decide)]
  show cr_V Γ 30 [.ref 169] [] (cr_nf I cr_I0 0 169 [0, 0, 0, 0, 0, 0, 0, 0] 173) (cr_nf R cr_RF none 169 [none, some 170, some 171, some 172, none, none, none, none] 173) 173
  refine cr_aload_n h (j := 0) rfl rfl dX1_init_30 ?_
  refine cr_iconst h (v := (5 : Int32)) (by decide) dX1_init_31 ?_
  refine cr_newa h wA_int (N := 5) (by decide) (by decide) rfl (fun k => hZ.aI (by decide) (Nat.le_refl _)) ⟨⟨by decide, by decide, by decide, by decide⟩, rfl, rfl⟩ dX1_init_32 ?_
  rw [hZ.advI (n := 173) (m := 174) (by decide) (by decide) (by decide +kernel), hZ.advR (n := 173) (m := 174) (by decide) (by decide) (by decide +kernel)]
  show cr_V Γ 34 [.ref 169] [.ref 173, .ref 169] (cr_nf I cr_I0 0 169 [0, 0, 0, 0, 0, 0, 0, 0] 174) (cr_nf R cr_RF none 169 [none, some 170, some 171, some 172, none, none, none, none] 174) 174
  refine cr_putRF h cr_clsX1 (k := 4) (by decide) (by decide) (Or.inr ⟨_, rfl⟩) rfl rfl rfl rfl wf_X1_25 (by decide) (by decide) rfl dX1_init_34 ?_
  unfold cr_nf
  rw [cr_sB_put (by decide)]
  show cr_V Γ 37 [.ref 169] [] (cr_nf I cr_I0 0 169 [0, 0, 0, 0, 0, 0, 0, 0] 174) (cr_nf R cr_RF none 169 [none, some 170, some 171, some 172, some 173, none, none, none] 174) 174
  refine cr_aload_n h (j := 0) rfl rfl dX1_init_37 ?_
  refine cr_iconst h (v := (5 : Int32)) (by decide) dX1_init_38 ?_
  refine cr_newa h wA_int (N := 5) (by decide) (by decide) rfl (fun k => hZ.aI (by decide) (Nat.le_refl _)) ⟨⟨by decide, by decide, by decide, by decide⟩, rfl, rfl⟩ dX1_init_39 ?_
  rw [hZ.advI (n := 174) (m := 175) (by decide) (by decide) (by decide +kernel), hZ.advR (n := 174) (m := 175) (by decide) (by decide) (by decide +kernel)]
  show cr_V Γ 41 [.ref 169] [.ref 174, .ref 169] (cr_nf I cr_I0 0 169 [0, 0, 0, 0, 0, 0, 0, 0] 175) (cr_nf R cr_RF none 169 [none, some 170, some 171, some 172, some 173, none, none, none] 175) 175
  refine cr_putRF h cr_clsX1 (k := 5) (by decide) (by decide) (Or.inr ⟨_, rfl⟩) rfl rfl rfl rfl wf_X1_28 (by decide) (by decide) rfl dX1_init_41 ?_
  unfold cr_nf
  rw [cr_sB_put (by decide)]
  show cr_V Γ 44 [.ref 169] [] (cr_nf I cr_I0 0 169 [0, 0, 0, 0, 0, 0, 0, 0] 175) (cr_nf R cr_RF none 169 [none, some 170, some 171, some 172, some 173, some 174, none, none] 175) 175
  refine cr_aload_n h (j := 0) rfl rfl dX1_init_44 ?_
  refine cr_iconst h (v := (5 : Int32)) (by decide) dX1_init_45 ?_
  refine cr_newa h wA_int (N := 5) (by decide) (by decide) rfl (fun k => hZ.aI (by decide) (Nat.le_refl _)) ⟨⟨by decide, by decide, by decide, by decide⟩, rfl, rfl⟩ dX1_init_46 ?_
  rw [hZ.advI (n := 175) (m := 176) (by decide) (by decide) (by decide +kernel), hZ.advR (n := 175) (m := 176) (by decide) (by decide) (by decide +kernel)]
  show cr_V Γ 48 [.ref 169] [.ref 175, .ref 169] (cr_nf I cr_I0 0 169 [0, 0, 0, 0, 0, 0, 0, 0] 176) (cr_nf R cr_RF none 169 [none, some 170, some 171, some 172, some 173, some 174, none, none] 176) 176
  refine cr_putRF h cr_clsX1 (k := 6) (by decide) (by decide) (Or.inr ⟨_, rfl⟩) rfl rfl rfl rfl wf_X1_31 (by decide) (by decide) rfl dX1_init_48 ?_
  unfold cr_nf
  rw [cr_sB_put (by decide)]
  show cr_V Γ 51 [.ref 169] [] (cr_nf I cr_I0 0 169 [0, 0, 0, 0, 0, 0, 0, 0] 176) (cr_nf R cr_RF none 169 [none, some 170, some 171, some 172, some 173, some 174, some 175, none] 176) 176
  refine cr_aload_n h (j := 0) rfl rfl dX1_init_51 ?_
  refine cr_iconst h (v := (5 : Int32)) (by decide) dX1_init_52 ?_
  refine cr_newa h wA_int (N := 5) (by decide) (by decide) rfl (fun k => hZ.aI (by decide) (Nat.le_refl _)) ⟨⟨by decide, by decide, by decide, by decide⟩, rfl, rfl⟩ dX1_init_53 ?_
  rw [hZ.advI (n := 176) (m := 177) (by decide) (by decide) (by decide +kernel), hZ.advR (n := 176) (m := 177) (by decide) (by decide) (by decide +kernel)]
  show cr_V Γ 55 [.ref 169] [.ref 176, .ref 169] (cr_nf I cr_I0 0 169 [0, 0, 0, 0, 0, 0, 0, 0] 177) (cr_nf R cr_RF none 169 [none, some 170, some 171, some 172, some 173, some 174, some 175, none] 177) 177
  refine cr_putRF h cr_clsX1 (k := 7) (by decide) (by decide) (Or.inr ⟨_, rfl⟩) rfl rfl rfl rfl wf_X1_34 (by decide) (by decide) rfl dX1_init_55 ?_
  unfold cr_nf
  rw [cr_sB_put (by decide)]
  show cr_V Γ 58 [.ref 169] [] (cr_nf I cr_I0 0 169 [0, 0, 0, 0, 0, 0, 0, 0] 177) (cr_nf R cr_RF none 169 [none, some 170, some 171, some 172, some 173, some 174, some 175, some 176] 177) 177
  rw [cr_nf_end (by decide) (cr_I0_of (by decide +kernel)), cr_nf_end (by decide) (cr_RF_of (by decide +kernel))]
  exact cr_vret h rfl rfl dX1_init_58 hK
abbrev T_yX5_init_177 : cr_T := fun vs I R K => vs = [.ref 177] ∧ cr_Z0 177 I R ∧ K none (cr_mix I 177 185 cr_I0) (cr_mix R 177 185 cr_RF)
theorem C_yX5_init_177 : cr_C yX5_init cX5_init 1 none (cr_rmC 1 20 178 185) 178 185 T_yX5_init_177 := by
  refine cr_C.of (by decide +kernel) (fun vs I R K hT => by obtain ⟨rfl, -, -⟩ := hT; exact Nat.le_of_ble_eq_true rfl) (fun Γ K h vs I R hT => ?_)
  obtain ⟨rfl, hZ, hK⟩ := hT
  show cr_V Γ 0 [.ref 177] [] I R 178
  refine cr_V_eq (cr_nf_start cr_I0 1 (fun k => hZ.1 177 (Nat.le_refl _) k)) (cr_nf_start cr_RF 1 (fun k => hZ.no (by decide +kernel) k)) ?_
  show cr_V Γ 0 [.ref 177] [] (cr_nf I cr_I0 0 177 [0] 178) (cr_nf R cr_RF none 177 [none] 178) 178
  refine cr_aload_n h (j := 0) rfl rfl dX5_init_0 ?_
  refine cr_objI h wm_X5_3 wv_objectInit cr_oc (Nat.le_of_ble_eq_true rfl) ⟨by decide, by decide⟩ dX5_init_1 ?_
  refine cr_aload_n h (j := 0) rfl rfl dX5_init_4 ?_
  refine cr_bipush h (v := (6 : Int32)) (by decide) dX5_init_5 ?_
  refine cr_bipush h (v := (6 : Int32)) (by decide) dX5_init_7 ?_
  refine cr_mna h wl_X5_9 wA_int (N := 6) (M := 6) (by decide) (by decide) (by decide) (by decide) rfl (by decide +kernel) (fun j hj => (hZ.aR (by decide) (Nat.le_refl _)).trans ((show ∀ j, j < 6 → cr_R0 178 j = some (178 + 1 + j) by decide +kernel) j hj)) (fun j _ k => hZ.aI (by decide) (by omega)) ⟨⟨by decide, by decide, by decide, by decide⟩, rfl, rfl⟩ dX5_init_9 ?_
  rw [hZ.advI (n := 178) (m := 185) (by decide) (by decide) (by decide +kernel), hZ.advR (n := 178) (m := 185) (by decide) (by decide) (by decide +kernel)]
  show cr_V Γ 13 [.ref 177] [.ref 178, .ref 177] (cr_nf I cr_I0 0 177 [0] 185) (cr_nf R cr_RF none 177 [none] 185) 185
  refine cr_putRF h cr_clsX5 (k := 0) (by decide) (by decide) (Or.inr ⟨_, rfl⟩) rfl rfl rfl rfl wf_X5_11 (by decide) (by decide) rfl dX5_init_13 ?_
  unfold cr_nf
  rw [cr_sB_put (by decide)]
  show cr_V Γ 16 [.ref 177] [] (cr_nf I cr_I0 0 177 [0] 185) (cr_nf R cr_RF none 177 [some 178] 185) 185
  rw [cr_nf_end (by decide) (cr_I0_of (by decide +kernel)), cr_nf_end (by decide) (cr_RF_of (by decide +kernel))]
  exact cr_vret h rfl rfl dX5_init_16 hK
abbrev T_yX0_init_185 : cr_T := fun vs I R K => vs = [.ref 185] ∧ cr_Z0 185 I R ∧ K none (cr_mix I 185 200 cr_I0) (cr_mix R 185 200 cr_RF)
theorem C_yX0_init_185 : cr_C yX0_init cX0_init 1 none (cr_rmC 1 20 186 200) 186 200 T_yX0_init_185 := by
  refine cr_C.of (by decide +kernel) (fun vs I R K hT => by obtain ⟨rfl, -, -⟩ := hT; exact Nat.le_of_ble_eq_true rfl) (fun Γ K h vs I R hT => ?_)
  obtain ⟨rfl, hZ, hK⟩ := hT
  show cr_V Γ 0 [.ref 185] [] I R 186
  refine cr_V_eq (cr_nf_start cr_I0 9 (fun k => hZ.1 185 (Nat.le_refl _) k)) (cr_nf_start cr_RF 9 (fun k => hZ.no (by decide +kernel) k)) ?_
  show cr_V Γ 0 [.ref 185] [] (cr_nf I cr_I0 0 185 [0, 0, 0, 0, 0, 0, 0, 0, 0] 186) (cr_nf R cr_RF none 185 [none, none, none, none, none, none, none, none, none] 186) 186
  refine cr_aload_n h (j := 0) rfl rfl dX0_init_0 ?_
  refine cr_objI h wm_X0_3 wv_objectInit cr_oc (Nat.le_of_ble_eq_true rfl) ⟨by decide, by decide⟩ dX0_init_1 ?_
  refine cr_aload_n h (j := 0) rfl rfl dX0_init_4 ?_
  refine cr_bipush h (v := (7 : Int32)) (by decide) dX0_init_5 ?_
  refine cr_newa h wA_int (N := 7) (by decide) (by decide) rfl (fun k => hZ.aI (by decide) (Nat.le_refl _)) ⟨⟨by decide, by decide, by decide, by decide⟩, rfl, rfl⟩ dX0_init_7 ?_
  rw [hZ.advI (n := 186) (m := 187) (by decide) (by decide) (by decide +kernel), hZ.advR (n := 186) (m := 187) (by decide) (by decide) (by decide +kernel)]
  show cr_V Γ 9 [.ref 185] [.ref 186, .ref 185] (cr_nf I cr_I0 0 185 [0, 0, 0, 0, 0, 0, 0, 0, 0] 187) (cr_nf R cr_RF none 185 [none, none, none, none, none, none, none, none, none] 187) 187
  refine cr_putRF h cr_clsX0 (k := 0) (by decide) (by decide) (Or.inr ⟨_, rfl⟩) rfl rfl rfl rfl wf_X0_9 (by decide) (by decide) rfl dX0_init_9 ?_
  unfold cr_nf
  rw [cr_sB_put (by decide)]
  show cr_V Γ 12 [.ref 185] [] (cr_nf I cr_I0 0 185 [0, 0, 0, 0, 0, 0, 0, 0, 0] 187) (cr_nf R cr_RF none 185 [some 186, none, none, none, none, none, none, none, none] 187) 187
  refine cr_aload_n h (j := 0) rfl rfl dX0_init_12 ?_
  refine cr_iconst h (v := (0 : Int32)) (by decide) dX0_init_13 ?_
  refine cr_putI h cr_clsX0 (k := 1) (by decide) (by decide) rfl rfl rfl wf_X0_15 (by decide) (by decide) rfl dX0_init_14 ?_
  unfold cr_nf
  rw [cr_sB_put (by decide)]
  show cr_V Γ 17 [.ref 185] [] (cr_nf I cr_I0 0 185 [0, 0, 0, 0, 0, 0, 0, 0, 0] 187) (cr_nf R cr_RF none 185 [some 186, none, none, none, none, none, none, none, none] 187) 187
  refine cr_aload_n h (j := 0) rfl rfl dX0_init_17 ?_
  refine cr_bipush h (v := (12 : Int32)) (by decide) dX0_init_18 ?_
  refine cr_newa h wA_int (N := 12) (by decide) (by decide) rfl (fun k => hZ.aI (by decide) (Nat.le_refl _)) ⟨⟨by decide, by decide, by decide, by decide⟩, rfl, rfl⟩ dX0_init_20 ?_
  rw [hZ.advI (n := 187) (m := 188) (by decide) (by decide) (by decide +kernel), hZ.advR (n := 187) (m := 188) (by decide) (by decide) (by decide +kernel)]
  show cr_V Γ 22 [.ref 185] [.ref 187, .ref 185] (cr_nf I cr_I0 0 185 [0, 0, 0, 0, 0, 0, 0, 0, 0] 188) (cr_nf R cr_RF none 185 [some 186, none, none, none, none, none, none, none, none] 188) 188
  refine cr_putRF h cr_clsX0 (k := 2) (by decide) (by decide) (Or.inr ⟨_, rfl⟩) rfl rfl rfl rfl wf_X0_19 (by decide) (by decide) rfl dX0_init_22 ?_
  unfold cr_nf
  rw [cr_sB_put (by decide)]
  show cr_V Γ 25 [.ref 185] [] (cr_nf I cr_I0 0 185 [0, 0, 0, 0, 0, 0, 0, 0, 0] 188) (cr_nf R cr_RF none 185 [some 186, none, some 187, none, none, none, none, none, none] 188) 188
  refine cr_aload_n h (j := 0) rfl rfl dX0_init_25 ?_
  refine cr_bipush h (v := (12 : Int32)) (by decide) dX0_init_26 ?_
  refine cr_newa h wA_int (N := 12) (by decide) (by decide) rfl (fun k => hZ.aI (by decide) (Nat.le_refl _)) ⟨⟨by decide, by decide, by decide, by decide⟩, rfl, rfl⟩ dX0_init_28 ?_
  rw [hZ.advI (n := 188) (m := 189) (by decide) (by decide) (by decide +kernel), hZ.advR (n := 188) (m := 189) (by decide) (by decide) (by decide +kernel)]
  show cr_V Γ 30 [.ref 185] [.ref 188, .ref 185] (cr_nf I cr_I0 0 185 [0, 0, 0, 0, 0, 0, 0, 0, 0] 189) (cr_nf R cr_RF none 185 [some 186, none, some 187, none, none, none, none, none, none] 189) 189
  refine cr_putRF h cr_clsX0 (k := 3) (by decide) (by decide) (Or.inr ⟨_, rfl⟩) rfl rfl rfl rfl wf_X0_22 (by decide) (by decide) rfl dX0_init_30 ?_
  unfold cr_nf
  rw [cr_sB_put (by decide)]
  show cr_V Γ 33 [.ref 185] [] (cr_nf I cr_I0 0 185 [0, 0, 0, 0, 0, 0, 0, 0, 0] 189) (cr_nf R cr_RF none 185 [some 186, none, some 187, some 188, none, none, none, none, none] 189) 189
  refine cr_aload_n h (j := 0) rfl rfl dX0_init_33 ?_
  refine cr_iconst h (v := (0 : Int32)) (by decide) dX0_init_34 ?_
  refine cr_putI h cr_clsX0 (k := 4) (by decide) (by decide) rfl rfl rfl wf_X0_25 (by decide) (by decide) rfl dX0_init_35 ?_
  unfold cr_nf
  rw [cr_sB_put (by decide)]
  show cr_V Γ 38 [.ref 185] [] (cr_nf I cr_I0 0 185 [0, 0, 0, 0, 0, 0, 0, 0, 0] 189) (cr_nf R cr_RF none 185 [some 186, none, some 187, some 188, none, none, none, none, none] 189) 189
  refine cr_aload_n h (j := 0) rfl rfl dX0_init_38 ?_
  refine cr_bipush h (v := (12 : Int32)) (by decide) dX0_init_39 ?_
  refine cr_newa h wA_int (N := 12) (by decide) (by decide) rfl (fun k => hZ.aI (by decide) (Nat.le_refl _)) ⟨⟨by decide, by decide, by decide, by decide⟩, rfl, rfl⟩ dX0_init_41 ?_
  rw [hZ.advI (n := 189) (m := 190) (by decide) (by decide) (by decide +kernel), hZ.advR (n := 189) (m := 190) (by decide) (by decide) (by decide +kernel)]
  show cr_V Γ 43 [.ref 185] [.ref 189, .ref 185] (cr_nf I cr_I0 0 185 [0, 0, 0, 0, 0, 0, 0, 0, 0] 190) (cr_nf R cr_RF none 185 [some 186, none, some 187, some 188, none, none, none, none, none] 190) 190
  refine cr_putRF h cr_clsX0 (k := 5) (by decide) (by decide) (Or.inr ⟨_, rfl⟩) rfl rfl rfl rfl wf_X0_28 (by decide) (by decide) rfl dX0_init_43 ?_
  unfold cr_nf
  rw [cr_sB_put (by decide)]
  show cr_V Γ 46 [.ref 185] [] (cr_nf I cr_I0 0 185 [0, 0, 0, 0, 0, 0, 0, 0, 0] 190) (cr_nf R cr_RF none 185 [some 186, none, some 187, some 188, none, some 189, none, none, none] 190) 190
  refine cr_aload_n h (j := 0) rfl rfl dX0_init_46 ?_
  refine cr_bipush h (v := (12 : Int32)) (by decide) dX0_init_47 ?_
  refine cr_newa h wA_int (N := 12) (by decide) (by decide) rfl (fun k => hZ.aI (by decide) (Nat.le_refl _)) ⟨⟨by decide, by decide, by decide, by decide⟩, rfl, rfl⟩ dX0_init_49 ?_
  rw [hZ.advI (n := 190) (m := 191) (by decide) (by decide) (by decide +kernel), hZ.advR (n := 190) (m := 191) (by decide) (by decide) (by decide +kernel)]
  show cr_V Γ 51 [.ref 185] [.ref 190, .ref 185] (cr_nf I cr_I0 0 185 [0, 0, 0, 0, 0, 0, 0, 0, 0] 191) (cr_nf R cr_RF none 185 [some 186, none, some 187, some 188, none, some 189, none, none, none] 191) 191
  refine cr_putRF h cr_clsX0 (k := 6) (by decide) (by decide) (Or.inr ⟨_, rfl⟩) rfl rfl rfl rfl wf_X0_31 (by decide) (by decide) rfl dX0_init_51 ?_
  unfold cr_nf
  rw [cr_sB_put (by decide)]
  show cr_V Γ 54 [.ref 185] [] (cr_nf I cr_I0 0 185 [0, 0, 0, 0, 0, 0, 0, 0, 0] 191) (cr_nf R cr_RF none 185 [some 186, none, some 187, some 188, none, some 189, some 190, none, none] 191) 191
  refine cr_aload_n h (j := 0) rfl rfl dX0_init_54 ?_
  refine cr_bipush h (v := (12 : Int32)) (by decide) dX0_init_55 ?_
  refine cr_newa h wA_int (N := 12) (by decide) (by decide) rfl (fun k => hZ.aI (by decide) (Nat.le_refl _)) ⟨⟨by decide, by decide, by decide, by decide⟩, rfl, rfl⟩ dX0_init_57 ?_
  rw [hZ.advI (n := 191) (m := 192) (by decide) (by decide) (by decide +kernel), hZ.advR (n := 191) (m := 192) (by decide) (by decide) (by decide +kernel)]
  show cr_V Γ 59 [.ref 185] [.ref 191, .ref 185] (cr_nf I cr_I0 0 185 [0, 0, 0, 0, 0, 0, 0, 0, 0] 192) (cr_nf R cr_RF none 185 [some 186, none, some 187, some 188, none, some 189, some 190, none, none] 192) 192
  refine cr_putRF h cr_clsX0 (k := 7) (by decide) (by decide) (Or.inr ⟨_, rfl⟩) rfl rfl rfl rfl wf_X0_34 (by decide) (by decide) rfl dX0_init_59 ?_
  unfold cr_nf
  rw [cr_sB_put (by decide)]
  show cr_V Γ 62 [.ref 185] [] (cr_nf I cr_I0 0 185 [0, 0, 0, 0, 0, 0, 0, 0, 0] 192) (cr_nf R cr_RF none 185 [some 186, none, some 187, some 188, none, some 189, some 190, some 191, none] 192) 192
  refine cr_aload_n h (j := 0) rfl rfl dX0_init_62 ?_
  refine cr_bipush h (v := (7 : Int32)) (by decide) dX0_init_63 ?_
  refine cr_bipush h (v := (7 : Int32)) (by decide) dX0_init_65 ?_
  refine cr_mna h wl_X0_37 wA_int (N := 7) (M := 7) (by decide) (by decide) (by decide) (by decide) rfl (by decide +kernel) (fun j hj => (hZ.aR (by decide) (Nat.le_refl _)).trans ((show ∀ j, j < 7 → cr_R0 192 j = some (192 + 1 + j) by decide +kernel) j hj)) (fun j _ k => hZ.aI (by decide) (by omega)) ⟨⟨by decide, by decide, by decide, by decide⟩, rfl, rfl⟩ dX0_init_67 ?_
  rw [hZ.advI (n := 192) (m := 200) (by decide) (by decide) (by decide +kernel), hZ.advR (n := 192) (m := 200) (by decide) (by decide) (by decide +kernel)]
  show cr_V Γ 71 [.ref 185] [.ref 192, .ref 185] (cr_nf I cr_I0 0 185 [0, 0, 0, 0, 0, 0, 0, 0, 0] 200) (cr_nf R cr_RF none 185 [some 186, none, some 187, some 188, none, some 189, some 190, some 191, none] 200) 200
  refine cr_putRF h cr_clsX0 (k := 8) (by decide) (by decide) (Or.inr ⟨_, rfl⟩) rfl rfl rfl rfl wf_X0_39 (by decide) (by decide) rfl dX0_init_71 ?_
  unfold cr_nf
  rw [cr_sB_put (by decide)]
  show cr_V Γ 74 [.ref 185] [] (cr_nf I cr_I0 0 185 [0, 0, 0, 0, 0, 0, 0, 0, 0] 200) (cr_nf R cr_RF none 185 [some 186, none, some 187, some 188, none, some 189, some 190, some 191, some 192] 200) 200
  rw [cr_nf_end (by decide) (cr_I0_of (by decide +kernel)), cr_nf_end (by decide) (cr_RF_of (by decide +kernel))]
  exact cr_vret h rfl rfl dX0_init_74 hK
abbrev T_yX8_init_0 : cr_T := fun vs I R K => vs = [.ref 0] ∧ cr_Z0 0 I R ∧ K none (cr_mix I 0 200 cr_I0) (cr_mix R 0 200 cr_RF)
theorem C_yX8_init_0 : cr_C yX8_init cX8_init 1 none (cr_rmC 4 80 1 200) 1 200 T_yX8_init_0 := by
  refine cr_C.of (by decide +kernel) (fun vs I R K hT => by obtain ⟨rfl, -, -⟩ := hT; exact Nat.le_of_ble_eq_true rfl) (fun Γ K h vs I R hT => ?_)
  obtain ⟨rfl, hZ, hK⟩ := hT
  show cr_V Γ 0 [.ref 0] [] I R 1
  refine cr_V_eq (cr_nf_start cr_I0 6 (fun k => hZ.1 0 (Nat.le_refl _) k)) (cr_nf_start cr_RF 6 (fun k => hZ.no (by decide +kernel) k)) ?_
  show cr_V Γ 0 [.ref 0] [] (cr_nf I cr_I0 0 0 [0, 0, 0, 0, 0, 0] 1) (cr_nf R cr_RF none 0 [none, none, none, none, none, none] 1) 1
  refine cr_aload_n h (j := 0) rfl rfl dX8_init_0 ?_
  refine cr_objI h wm_X8_1 wv_objectInit cr_oc (Nat.le_of_ble_eq_true rfl) ⟨by decide, by decide⟩ dX8_init_1 ?_
  refine cr_aload_n h (j := 0) rfl rfl dX8_init_4 ?_
  refine cr_new h cr_clsX7 wl_X8_7 wN_X7 wI_X7 rfl (fun k _ => hZ.aI (by decide) (Nat.le_refl _)) (fun k _ => (hZ.aR (by decide) (Nat.le_refl _)).trans (cr_R0_nil (by decide +kernel))) cr_tf7 ⟨⟨by decide, by decide, by decide, by decide⟩, rfl, rfl⟩ dX8_init_5 ?_
  show cr_V Γ 8 [.ref 0] [.ref 1, .ref 0] (cr_nf I cr_I0 0 0 [0, 0, 0, 0, 0, 0] 1) (cr_nf R cr_RF none 0 [none, none, none, none, none, none] 1) 2
  refine cr_dup h rfl dX8_init_8 ?_
  refine cr_callIN h C_yX7_init_1 cZ_yX7_init rfl rfl (fun U hU => hU.1) wv_yX7_init ⟨⟨by decide, by decide⟩, ⟨rfl, rfl⟩, ⟨by decide, by decide, by decide⟩, rfl, rfl⟩ (As := []) (b := 1) rfl (Nat.le_of_ble_eq_true rfl) dX8_init_9 ⟨rfl, (hZ.nf (by decide)), ?_⟩
  rw [cr_nf_sub (by decide) (by decide), cr_nf_sub (by decide) (by decide)]
  show cr_V Γ 12 [.ref 0] [.ref 1, .ref 0] (cr_nf I cr_I0 0 0 [0, 0, 0, 0, 0, 0] 27) (cr_nf R cr_RF none 0 [none, none, none, none, none, none] 27) 27
  refine cr_putRF h cr_clsX8 (k := 0) (by decide) (by decide) (Or.inl ⟨_, rfl⟩) rfl rfl rfl rfl wf_X8_10 (by decide) (by decide) rfl dX8_init_12 ?_
  unfold cr_nf
  rw [cr_sB_put (by decide)]
  show cr_V Γ 15 [.ref 0] [] (cr_nf I cr_I0 0 0 [0, 0, 0, 0, 0, 0] 27) (cr_nf R cr_RF none 0 [some 1, none, none, none, none, none] 27) 27
  refine cr_aload_n h (j := 0) rfl rfl dX8_init_15 ?_
  refine cr_new h cr_clsX3 wl_X8_16 wN_X3 wI_X3 rfl (fun k _ => hZ.aI (by decide) (Nat.le_refl _)) (fun k _ => (hZ.aR (by decide) (Nat.le_refl _)).trans (cr_R0_nil (by decide +kernel))) cr_tf3 ⟨⟨by decide, by decide, by decide, by decide⟩, rfl, rfl⟩ dX8_init_16 ?_
  show cr_V Γ 19 [.ref 0] [.ref 27, .ref 0] (cr_nf I cr_I0 0 0 [0, 0, 0, 0, 0, 0] 27) (cr_nf R cr_RF none 0 [some 1, none, none, none, none, none] 27) 28
  refine cr_dup h rfl dX8_init_19 ?_
  refine cr_callIN h C_yX3_init_27 cZ_yX3_init rfl rfl (fun U hU => hU.2.2.1) wv_yX3_init ⟨⟨by decide, by decide⟩, ⟨rfl, rfl⟩, ⟨by decide, by decide, by decide⟩, rfl, rfl⟩ (As := []) (b := 27) rfl (Nat.le_of_ble_eq_true rfl) dX8_init_20 ⟨rfl, (hZ.nf (by decide)), ?_⟩
  rw [cr_nf_sub (by decide) (by decide), cr_nf_sub (by decide) (by decide)]
  show cr_V Γ 23 [.ref 0] [.ref 27, .ref 0] (cr_nf I cr_I0 0 0 [0, 0, 0, 0, 0, 0] 137) (cr_nf R cr_RF none 0 [some 1, none, none, none, none, none] 137) 137
  refine cr_putRF h cr_clsX8 (k := 1) (by decide) (by decide) (Or.inl ⟨_, rfl⟩) rfl rfl rfl rfl wf_X8_19 (by decide) (by decide) rfl dX8_init_23 ?_
  unfold cr_nf
  rw [cr_sB_put (by decide)]
  show cr_V Γ 26 [.ref 0] [] (cr_nf I cr_I0 0 0 [0, 0, 0, 0, 0, 0] 137) (cr_nf R cr_RF none 0 [some 1, some 27, none, none, none, none] 137) 137
  refine cr_aload_n h (j := 0) rfl rfl dX8_init_26 ?_
  refine cr_new h cr_clsX4 wl_X8_23 wN_X4 wI_X4 rfl (fun k _ => hZ.aI (by decide) (Nat.le_refl _)) (fun k _ => (hZ.aR (by decide) (Nat.le_refl _)).trans (cr_R0_nil (by decide +kernel))) cr_tf4 ⟨⟨by decide, by decide, by decide, by decide⟩, rfl, rfl⟩ dX8_init_27 ?_
  show cr_V Γ 30 [.ref 0] [.ref 137, .ref 0] (cr_nf I cr_I0 0 0 [0, 0, 0, 0, 0, 0] 137) (cr_nf R cr_RF none 0 [some 1, some 27, none, none, none, none] 137) 138
  refine cr_dup h rfl dX8_init_30 ?_
  refine cr_callIN h C_yX4_init_137 cZ_yX4_init rfl rfl (fun U hU => hU.2.2.2.2.2.1) wv_yX4_init ⟨⟨by decide, by decide⟩, ⟨rfl, rfl⟩, ⟨by decide, by decide, by decide⟩, rfl, rfl⟩ (As := []) (b := 137) rfl (Nat.le_of_ble_eq_true rfl) dX8_init_31 ⟨rfl, (hZ.nf (by decide)), ?_⟩
  rw [cr_nf_sub (by decide) (by decide), cr_nf_sub (by decide) (by decide)]
  show cr_V Γ 34 [.ref 0] [.ref 137, .ref 0] (cr_nf I cr_I0 0 0 [0, 0, 0, 0, 0, 0] 169) (cr_nf R cr_RF none 0 [some 1, some 27, none, none, none, none] 169) 169
  refine cr_putRF h cr_clsX8 (k := 2) (by decide) (by decide) (Or.inl ⟨_, rfl⟩) rfl rfl rfl rfl wf_X8_26 (by decide) (by decide) rfl dX8_init_34 ?_
  unfold cr_nf
  rw [cr_sB_put (by decide)]
  show cr_V Γ 37 [.ref 0] [] (cr_nf I cr_I0 0 0 [0, 0, 0, 0, 0, 0] 169) (cr_nf R cr_RF none 0 [some 1, some 27, some 137, none, none, none] 169) 169
  refine cr_aload_n h (j := 0) rfl rfl dX8_init_37 ?_
  refine cr_new h cr_clsX1 wl_X8_30 wN_X1 wI_X1 rfl (fun k _ => hZ.aI (by decide) (Nat.le_refl _)) (fun k _ => (hZ.aR (by decide) (Nat.le_refl _)).trans (cr_R0_nil (by decide +kernel))) cr_tf1 ⟨⟨by decide, by decide, by decide, by decide⟩, rfl, rfl⟩ dX8_init_38 ?_
  show cr_V Γ 41 [.ref 0] [.ref 169, .ref 0] (cr_nf I cr_I0 0 0 [0, 0, 0, 0, 0, 0] 169) (cr_nf R cr_RF none 0 [some 1, some 27, some 137, none, none, none] 169) 170
  refine cr_dup h rfl dX8_init_41 ?_
  refine cr_callIN h C_yX1_init_169 cZ_yX1_init rfl rfl (fun U hU => hU.2.2.2.2.2.2.1) wv_yX1_init ⟨⟨by decide, by decide⟩, ⟨rfl, rfl⟩, ⟨by decide, by decide, by decide⟩, rfl, rfl⟩ (As := []) (b := 169) rfl (Nat.le_of_ble_eq_true rfl) dX8_init_42 ⟨rfl, (hZ.nf (by decide)), ?_⟩
  rw [cr_nf_sub (by decide) (by decide), cr_nf_sub (by decide) (by decide)]
  show cr_V Γ 45 [.ref 0] [.ref 169, .ref 0] (cr_nf I cr_I0 0 0 [0, 0, 0, 0, 0, 0] 177) (cr_nf R cr_RF none 0 [some 1, some 27, some 137, none, none, none] 177) 177
  refine cr_putRF h cr_clsX8 (k := 3) (by decide) (by decide) (Or.inl ⟨_, rfl⟩) rfl rfl rfl rfl wf_X8_33 (by decide) (by decide) rfl dX8_init_45 ?_
  unfold cr_nf
  rw [cr_sB_put (by decide)]
  show cr_V Γ 48 [.ref 0] [] (cr_nf I cr_I0 0 0 [0, 0, 0, 0, 0, 0] 177) (cr_nf R cr_RF none 0 [some 1, some 27, some 137, some 169, none, none] 177) 177
  refine cr_aload_n h (j := 0) rfl rfl dX8_init_48 ?_
  refine cr_new h cr_clsX5 wl_X8_37 wN_X5 wI_X5 rfl (fun k _ => hZ.aI (by decide) (Nat.le_refl _)) (fun k _ => (hZ.aR (by decide) (Nat.le_refl _)).trans (cr_R0_nil (by decide +kernel))) cr_tf5 ⟨⟨by decide, by decide, by decide, by decide⟩, rfl, rfl⟩ dX8_init_49 ?_
  show cr_V Γ 52 [.ref 0] [.ref 177, .ref 0] (cr_nf I cr_I0 0 0 [0, 0, 0, 0, 0, 0] 177) (cr_nf R cr_RF none 0 [some 1, some 27, some 137, some 169, none, none] 177) 178
  refine cr_dup h rfl dX8_init_52 ?_
  refine cr_callIN h C_yX5_init_177 cZ_yX5_init rfl rfl (fun U hU => hU.2.2.2.2.2.2.2.1) wv_yX5_init ⟨⟨by decide, by decide⟩, ⟨rfl, rfl⟩, ⟨by decide, by decide, by decide⟩, rfl, rfl⟩ (As := []) (b := 177) rfl (Nat.le_of_ble_eq_true rfl) dX8_init_53 ⟨rfl, (hZ.nf (by decide)), ?_⟩
  rw [cr_nf_sub (by decide) (by decide), cr_nf_sub (by decide) (by decide)]
  show cr_V Γ 56 [.ref 0] [.ref 177, .ref 0] (cr_nf I cr_I0 0 0 [0, 0, 0, 0, 0, 0] 185) (cr_nf R cr_RF none 0 [some 1, some 27, some 137, some 169, none, none] 185) 185
  refine cr_putRF h cr_clsX8 (k := 4) (by decide) (by decide) (Or.inl ⟨_, rfl⟩) rfl rfl rfl rfl wf_X8_40 (by decide) (by decide) rfl dX8_init_56 ?_
  unfold cr_nf
  rw [cr_sB_put (by decide)]
  show cr_V Γ 59 [.ref 0] [] (cr_nf I cr_I0 0 0 [0, 0, 0, 0, 0, 0] 185) (cr_nf R cr_RF none 0 [some 1, some 27, some 137, some 169, some 177, none] 185) 185
  refine cr_aload_n h (j := 0) rfl rfl dX8_init_59 ?_
  refine cr_new h cr_clsX0 wl_X8_44 wN_X0 wI_X0 rfl (fun k _ => hZ.aI (by decide) (Nat.le_refl _)) (fun k _ => (hZ.aR (by decide) (Nat.le_refl _)).trans (cr_R0_nil (by decide +kernel))) cr_tf0 ⟨⟨by decide, by decide, by decide, by decide⟩, rfl, rfl⟩ dX8_init_60 ?_
  show cr_V Γ 63 [.ref 0] [.ref 185, .ref 0] (cr_nf I cr_I0 0 0 [0, 0, 0, 0, 0, 0] 185) (cr_nf R cr_RF none 0 [some 1, some 27, some 137, some 169, some 177, none] 185) 186
  refine cr_dup h rfl dX8_init_63 ?_
  refine cr_callIN h C_yX0_init_185 cZ_yX0_init rfl rfl (fun U hU => hU.2.2.2.2.2.2.2.2.1) wv_yX0_init ⟨⟨by decide, by decide⟩, ⟨rfl, rfl⟩, ⟨by decide, by decide, by decide⟩, rfl, rfl⟩ (As := []) (b := 185) rfl (Nat.le_of_ble_eq_true rfl) dX8_init_64 ⟨rfl, (hZ.nf (by decide)), ?_⟩
  rw [cr_nf_sub (by decide) (by decide), cr_nf_sub (by decide) (by decide)]
  show cr_V Γ 67 [.ref 0] [.ref 185, .ref 0] (cr_nf I cr_I0 0 0 [0, 0, 0, 0, 0, 0] 200) (cr_nf R cr_RF none 0 [some 1, some 27, some 137, some 169, some 177, none] 200) 200
  refine cr_putRF h cr_clsX8 (k := 5) (by decide) (by decide) (Or.inl ⟨_, rfl⟩) rfl rfl rfl rfl wf_X8_47 (by decide) (by decide) rfl dX8_init_67 ?_
  unfold cr_nf
  rw [cr_sB_put (by decide)]
  show cr_V Γ 70 [.ref 0] [] (cr_nf I cr_I0 0 0 [0, 0, 0, 0, 0, 0] 200) (cr_nf R cr_RF none 0 [some 1, some 27, some 137, some 169, some 177, some 185] 200) 200
  rw [cr_nf_end (by decide) (cr_I0_of (by decide +kernel)), cr_nf_end (by decide) (cr_RF_of (by decide +kernel))]
  exact cr_vret h rfl rfl dX8_init_70 hK
abbrev T_yX9_init_200 : cr_T := fun vs I R K => vs = [.ref 200] ∧ cr_Z0 200 I R ∧ K none (cr_mix I 200 247 cr_I0) (cr_mix R 200 247 cr_RF)
theorem C_yX9_init_200 : cr_C yX9_init cX9_init 1 none (cr_rmC 1 20 201 247) 201 247 T_yX9_init_200 := by
  refine cr_C.of (by decide +kernel) (fun vs I R K hT => by obtain ⟨rfl, -, -⟩ := hT; exact Nat.le_of_ble_eq_true rfl) (fun Γ K h vs I R hT => ?_)
  obtain ⟨rfl, hZ, hK⟩ := hT
  show cr_V Γ 0 [.ref 200] [] I R 201
  refine cr_V_eq (cr_nf_start cr_I0 65 (fun k => hZ.1 200 (Nat.le_refl _) k)) (cr_nf_start cr_RF 65 (fun k => hZ.no (by decide +kernel) k)) ?_
  show cr_V Γ 0 [.ref 200] [] (cr_nf I cr_I0 0 200 [0, 0, 0, 0, 0, 0, 0, 0, 0, 0, 0, 0, 0, 0, 0, 0, 0, 0, 0, 0, 0, 0, 0, 0, 0, 0, 0, 0, 0, 0, 0, 0, 0, 0, 0, 0, 0, 0, 0, 0, 0, 0, 0, 0, 0, 0, 0, 0, 0, 0, 0, 0, 0, 0, 0, 0, 0, 0, 0, 0, 0, 0, 0, 0, 0] 201) (cr_nf R cr_RF none 200 [none, none, none, none, none, none, none, none, none, none, none, none, none, none, none, none, none, none, none, none, none, none, none, none, none, none, none, none, none, none, none, none, none, none, none, none, none, none, none, none, none, none, none, none, none, none, none, none, none, none, none, none, none, none, none, none, none, none, none, none, none, none, none, none, none] 201) 201
  refine cr_aload_n h (j := 0) rfl rfl dX9_init_0 ?_
  refine cr_objI h wm_X9_1 wv_objectInit cr_oc (Nat.le_of_ble_eq_true rfl) ⟨by decide, by decide⟩ dX9_init_1 ?_
  refine cr_aload_n h (j := 0) rfl rfl dX9_init_4 ?_
  refine cr_iconst h (v := (4 : Int32)) (by decide) dX9_init_5 ?_
  refine cr_newa h wA_int (N := 4) (by decide) (by decide) rfl (fun k => hZ.aI (by decide) (Nat.le_refl _)) ⟨⟨by decide, by decide, by decide, by decide⟩, rfl, rfl⟩ dX9_init_6 ?_
  rw [hZ.opI 4 (by decide), hZ.advR (n := 201) (m := 202) (by decide) (by decide) (by decide +kernel)]
  show cr_V Γ 8 [.ref 200] [.ref 201, .ref 200] (cr_sB (cr_nf I cr_I0 0 200 [0, 0, 0, 0, 0, 0, 0, 0, 0, 0, 0, 0, 0, 0, 0, 0, 0, 0, 0, 0, 0, 0, 0, 0, 0, 0, 0, 0, 0, 0, 0, 0, 0, 0, 0, 0, 0, 0, 0, 0, 0, 0, 0, 0, 0, 0, 0, 0, 0, 0, 0, 0, 0, 0, 0, 0, 0, 0, 0, 0, 0, 0, 0, 0, 0] 202) 0 201 [0, 0, 0, 0]) (cr_nf R cr_RF none 200 [none, none, none, none, none, none, none, none, none, none, none, none, none, none, none, none, none, none, none, none, none, none, none, none, none, none, none, none, none, none, none, none, none, none, none, none, none, none, none, none, none, none, none, none, none, none, none, none, none, none, none, none, none, none, none, none, none, none, none, none, none, none, none, none, none] 202) 202
  refine cr_dup h rfl dX9_init_8 ?_
  refine cr_iconst h (v := (0 : Int32)) (by decide) dX9_init_9 ?_
  refine cr_iconst h (v := (1 : Int32)) (by decide) dX9_init_10 ?_
  refine cr_iast h (by decide) (by decide) rfl ⟨by decide, by decide⟩ dX9_init_11 ?_
  rw [cr_sB_put (by decide)]
  show cr_V Γ 12 [.ref 200] [.ref 201, .ref 200] (cr_sB (cr_nf I cr_I0 0 200 [0, 0, 0, 0, 0, 0, 0, 0, 0, 0, 0, 0, 0, 0, 0, 0, 0, 0, 0, 0, 0, 0, 0, 0, 0, 0, 0, 0, 0, 0, 0, 0, 0, 0, 0, 0, 0, 0, 0, 0, 0, 0, 0, 0, 0, 0, 0, 0, 0, 0, 0, 0, 0, 0, 0, 0, 0, 0, 0, 0, 0, 0, 0, 0, 0] 202) 0 201 [1, 0, 0, 0]) (cr_nf R cr_RF none 200 [none, none, none, none, none, none, none, none, none, none, none, none, none, none, none, none, none, none, none, none, none, none, none, none, none, none, none, none, none, none, none, none, none, none, none, none, none, none, none, none, none, none, none, none, none, none, none, none, none, none, none, none, none, none, none, none, none, none, none, none, none, none, none, none, none] 202) 202
  refine cr_dup h rfl dX9_init_12 ?_
  refine cr_iconst h (v := (1 : Int32)) (by decide) dX9_init_13 ?_
  refine cr_iconst h (v := (1 : Int32)) (by decide) dX9_init_14 ?_
  refine cr_iast h (by decide) (by decide) rfl ⟨by decide, by decide⟩ dX9_init_15 ?_
  rw [cr_sB_put (by decide)]
  show cr_V Γ 16 [.ref 200] [.ref 201, .ref 200] (cr_sB (cr_nf I cr_I0 0 200 [0, 0, 0, 0, 0, 0, 0, 0, 0, 0, 0, 0, 0, 0, 0, 0, 0, 0, 0, 0, 0, 0, 0, 0, 0, 0, 0, 0, 0, 0, 0, 0, 0, 0, 0, 0, 0, 0, 0, 0, 0, 0, 0, 0, 0, 0, 0, 0, 0, 0, 0, 0, 0, 0, 0, 0, 0, 0, 0, 0, 0, 0, 0, 0, 0] 202) 0 201 [1, 1, 0, 0]) (cr_nf R cr_RF none 200 [none, none, none, none, none, none, none, none, none, none, none, none, none, none, none, none, none, none, none, none, none, none, none, none, none, none, none, none, none, none, none, none, none, none, none, none, none, none, none, none, none, none, none, none, none, none, none, none, none, none, none, none, none, none, none, none, none, none, none, none, none, none, none, none, none] 202) 202
  refine cr_dup h rfl dX9_init_16 ?_
  refine cr_iconst h (v := (2 : Int32)) (by decide) dX9_init_17 ?_
  refine cr_iconst h (v := (1 : Int32)) (by decide) dX9_init_18 ?_
  refine cr_iast h (by decide) (by decide) rfl ⟨by decide, by decide⟩ dX9_init_19 ?_
  rw [cr_sB_put (by decide)]
  show cr_V Γ 20 [.ref 200] [.ref 201, .ref 200] (cr_sB (cr_nf I cr_I0 0 200 [0, 0, 0, 0, 0, 0, 0, 0, 0, 0, 0, 0, 0, 0, 0, 0, 0, 0, 0, 0, 0, 0, 0, 0, 0, 0, 0, 0, 0, 0, 0, 0, 0, 0, 0, 0, 0, 0, 0, 0, 0, 0, 0, 0, 0, 0, 0, 0, 0, 0, 0, 0, 0, 0, 0, 0, 0, 0, 0, 0, 0, 0, 0, 0, 0] 202) 0 201 [1, 1, 1, 0]) (cr_nf R cr_RF none 200 [none, none, none, none, none, none, none, none, none, none, none, none, none, none, none, none, none, none, none, none, none, none, none, none, none, none, none, none, none, none, none, none, none, none, none, none, none, none, none, none, none, none, none, none, none, none, none, none, none, none, none, none, none, none, none, none, none, none, none, none, none, none, none, none, none] 202) 202
  refine cr_dup h rfl dX9_init_20 ?_
  refine cr_iconst h (v := (3 : Int32)) (by decide) dX9_init_21 ?_
  refine cr_iconst h (v := (1 : Int32)) (by decide) dX9_init_22 ?_
  refine cr_iast h (by decide) (by decide) rfl ⟨by decide, by decide⟩ dX9_init_23 ?_
  rw [cr_sB_put (by decide)]
  show cr_V Γ 24 [.ref 200] [.ref 201, .ref 200] (cr_sB (cr_nf I cr_I0 0 200 [0, 0, 0, 0, 0, 0, 0, 0, 0, 0, 0, 0, 0, 0, 0, 0, 0, 0, 0, 0, 0, 0, 0, 0, 0, 0, 0, 0, 0, 0, 0, 0, 0, 0, 0, 0, 0, 0, 0, 0, 0, 0, 0, 0, 0, 0, 0, 0, 0, 0, 0, 0, 0, 0, 0, 0, 0, 0, 0, 0, 0, 0, 0, 0, 0] 202) 0 201 [1, 1, 1, 1]) (cr_nf R cr_RF none 200 [none, none, none, none, none, none, none, none, none, none, none, none, none, none, none, none, none, none, none, none, none, none, none, none, none, none, none, none, none, none, none, none, none, none, none, none, none, none, none, none, none, none, none, none, none, none, none, none, none, none, none, none, none, none, none, none, none, none, none, none, none, none, none, none, none] 202) 202
  rw [cr_nf_close (by decide) (by decide) (cr_I0_of (by decide +kernel))]
  refine cr_putRF h cr_clsX9 (k := 0) (by decide) (by decide) (Or.inr ⟨_, rfl⟩) rfl rfl rfl rfl wf_X9_7 (by decide) (by decide) rfl dX9_init_24 ?_
  unfold cr_nf
  rw [cr_sB_put (by decide)]
  show cr_V Γ 27 [.ref 200] [] (cr_nf I cr_I0 0 200 [0, 0, 0, 0, 0, 0, 0, 0, 0, 0, 0, 0, 0, 0, 0, 0, 0, 0, 0, 0, 0, 0, 0, 0, 0, 0, 0, 0, 0, 0, 0, 0, 0, 0, 0, 0, 0, 0, 0, 0, 0, 0, 0, 0, 0, 0, 0, 0, 0, 0, 0, 0, 0, 0, 0, 0, 0, 0, 0, 0, 0, 0, 0, 0, 0] 202) (cr_nf R cr_RF none 200 [some 201, none, none, none, none, none, none, none, none, none, none, none, none, none, none, none, none, none, none, none, none, none, none, none, none, none, none, none, none, none, none, none, none, none, none, none, none, none, none, none, none, none, none, none, none, none, none, none, none, none, none, none, none, none, none, none, none, none, none, none, none, none, none, none, none] 202) 202
  refine cr_aload_n h (j := 0) rfl rfl dX9_init_27 ?_
  refine cr_iconst h (v := (4 : Int32)) (by decide) dX9_init_28 ?_
  refine cr_newa h wA_int (N := 4) (by decide) (by decide) rfl (fun k => hZ.aI (by decide) (Nat.le_refl _)) ⟨⟨by decide, by decide, by decide, by decide⟩, rfl, rfl⟩ dX9_init_29 ?_
  rw [hZ.opI 4 (by decide), hZ.advR (n := 202) (m := 203) (by decide) (by decide) (by decide +kernel)]
  show cr_V Γ 31 [.ref 200] [.ref 202, .ref 200] (cr_sB (cr_nf I cr_I0 0 200 [0, 0, 0, 0, 0, 0, 0, 0, 0, 0, 0, 0, 0, 0, 0, 0, 0, 0, 0, 0, 0, 0, 0, 0, 0, 0, 0, 0, 0, 0, 0, 0, 0, 0, 0, 0, 0, 0, 0, 0, 0, 0, 0, 0, 0, 0, 0, 0, 0, 0, 0, 0, 0, 0, 0, 0, 0, 0, 0, 0, 0, 0, 0, 0, 0] 203) 0 202 [0, 0, 0, 0]) (cr_nf R cr_RF none 200 [some 201, none, none, none, none, none, none, none, none, none, none, none, none, none, none, none, none, none, none, none, none, none, none, none, none, none, none, none, none, none, none, none, none, none, none, none, none, none, none, none, none, none, none, none, none, none, none, none, none, none, none, none, none, none, none, none, none, none, none, none, none, none, none, none, none] 203) 203
  refine cr_dup h rfl dX9_init_31 ?_
  refine cr_iconst h (v := (0 : Int32)) (by decide) dX9_init_32 ?_
  refine cr_iconst h (v := (4 : Int32)) (by decide) dX9_init_33 ?_
  refine cr_iast h (by decide) (by decide) rfl ⟨by decide, by decide⟩ dX9_init_34 ?_
  rw [cr_sB_put (by decide)]
  show cr_V Γ 35 [.ref 200] [.ref 202, .ref 200] (cr_sB (cr_nf I cr_I0 0 200 [0, 0, 0, 0, 0, 0, 0, 0, 0, 0, 0, 0, 0, 0, 0, 0, 0, 0, 0, 0, 0, 0, 0, 0, 0, 0, 0, 0, 0, 0, 0, 0, 0, 0, 0, 0, 0, 0, 0, 0, 0, 0, 0, 0, 0, 0, 0, 0, 0, 0, 0, 0, 0, 0, 0, 0, 0, 0, 0, 0, 0, 0, 0, 0, 0] 203) 0 202 [4, 0, 0, 0]) (cr_nf R cr_RF none 200 [some 201, none, none, none, none, none, none, none, none, none, none, none, none, none, none, none, none, none, none, none, none, none, none, none, none, none, none, none, none, none, none, none, none, none, none, none, none, none, none, none, none, none, none, none, none, none, none, none, none, none, none, none, none, none, none, none, none, none, none, none, none, none, none, none, none] 203) 203
  refine cr_dup h rfl dX9_init_35 ?_
  refine cr_iconst h (v := (1 : Int32)) (by decide) dX9_init_36 ?_
  refine cr_iconst h (v := (4 : Int32)) (by decide) dX9_init_37 ?_
  refine cr_iast h (by decide) (by decide) rfl ⟨by decide, by decide⟩ dX9_init_38 ?_
  rw [cr_sB_put (by decide)]
  show cr_V Γ 39 [.ref 200] [.ref 202, .ref 200] (cr_sB (cr_nf I cr_I0 0 200 [0, 0, 0, 0, 0, 0, 0, 0, 0, 0, 0, 0, 0, 0, 0, 0, 0, 0, 0, 0, 0, 0, 0, 0, 0, 0, 0, 0, 0, 0, 0, 0, 0, 0, 0, 0, 0, 0, 0, 0, 0, 0, 0, 0, 0, 0, 0, 0, 0, 0, 0, 0, 0, 0, 0, 0, 0, 0, 0, 0, 0, 0, 0, 0, 0] 203) 0 202 [4, 4, 0, 0]) (cr_nf R cr_RF none 200 [some 201, none, none, none, none, none, none, none, none, none, none, none, none, none, none, none, none, none, none, none, none, none, none, none, none, none, none, none, none, none, none, none, none, none, none, none, none, none, none, none, none, none, none, none, none, none, none, none, none, none, none, none, none, none, none, none, none, none, none, none, none, none, none, none, none] 203) 203
  refine cr_dup h rfl dX9_init_39 ?_
  refine cr_iconst h (v := (2 : Int32)) (by decide) dX9_init_40 ?_
  refine cr_iconst h (v := (4 : Int32)) (by decide) dX9_init_41 ?_
  refine cr_iast h (by decide) (by decide) rfl ⟨by decide, by decide⟩ dX9_init_42 ?_
  rw [cr_sB_put (by decide)]
  show cr_V Γ 43 [.ref 200] [.ref 202, .ref 200] (cr_sB (cr_nf I cr_I0 0 200 [0, 0, 0, 0, 0, 0, 0, 0, 0, 0, 0, 0, 0, 0, 0, 0, 0, 0, 0, 0, 0, 0, 0, 0, 0, 0, 0, 0, 0, 0, 0, 0, 0, 0, 0, 0, 0, 0, 0, 0, 0, 0, 0, 0, 0, 0, 0, 0, 0, 0, 0, 0, 0, 0, 0, 0, 0, 0, 0, 0, 0, 0, 0, 0, 0] 203) 0 202 [4, 4, 4, 0]) (cr_nf R cr_RF none 200 [some 201, none, none, none, none, none, none, none, none, none, none, none, none, none, none, none, none, none, none, none, none, none, none, none, none, none, none, none, none, none, none, none, none, none, none, none, none, none, none, none, none, none, none, none, none, none, none, none, none, none, none, none, none, none, none, none, none, none, none, none, none, none, none, none, none] 203) 203
  refine cr_dup h rfl dX9_init_43 ?_
  refine cr_iconst h (v := (3 : Int32)) (by decide) dX9_init_44 ?_
  refine cr_iconst h (v := (4 : Int32)) (by decide) dX9_init_45 ?_
  refine cr_iast h (by decide) (by decide) rfl ⟨by decide, by decide⟩ dX9_init_46 ?_
  rw [cr_sB_put (by decide)]
  show cr_V Γ 47 [.ref 200] [.ref 202, .ref 200] (cr_sB (cr_nf I cr_I0 0 200 [0, 0, 0, 0, 0, 0, 0, 0, 0, 0, 0, 0, 0, 0, 0, 0, 0, 0, 0, 0, 0, 0, 0, 0, 0, 0, 0, 0, 0, 0, 0, 0, 0, 0, 0, 0, 0, 0, 0, 0, 0, 0, 0, 0, 0, 0, 0, 0, 0, 0, 0, 0, 0, 0, 0, 0, 0, 0, 0, 0, 0, 0, 0, 0, 0] 203) 0 202 [4, 4, 4, 4]) (cr_nf R cr_RF none 200 [some 201, none, none, none, none, none, none, none, none, none, none, none, none, none, none, none, none, none, none, none, none, none, none, none, none, none, none, none, none, none, none, none, none, none, none, none, none, none, none, none, none, none, none, none, none, none, none, none, none, none, none, none, none, none, none, none, none, none, none, none, none, none, none, none, none] 203) 203
  rw [cr_nf_close (by decide) (by decide) (cr_I0_of (by decide +kernel))]
  refine cr_putRF h cr_clsX9 (k := 1) (by decide) (by decide) (Or.inr ⟨_, rfl⟩) rfl rfl rfl rfl wf_X9_13 (by decide) (by decide) rfl dX9_init_47 ?_
  unfold cr_nf
  rw [cr_sB_put (by decide)]
  show cr_V Γ 50 [.ref 200] [] (cr_nf I cr_I0 0 200 [0, 0, 0, 0, 0, 0, 0, 0, 0, 0, 0, 0, 0, 0, 0, 0, 0, 0, 0, 0, 0, 0, 0, 0, 0, 0, 0, 0, 0, 0, 0, 0, 0, 0, 0, 0, 0, 0, 0, 0, 0, 0, 0, 0, 0, 0, 0, 0, 0, 0, 0, 0, 0, 0, 0, 0, 0, 0, 0, 0, 0, 0, 0, 0, 0] 203) (cr_nf R cr_RF none 200 [some 201, some 202, none, none, none, none, none, none, none, none, none, none, none, none, none, none, none, none, none, none, none, none, none, none, none, none, none, none, none, none, none, none, none, none, none, none, none, none, none, none, none, none, none, none, none, none, none, none, none, none, none, none, none, none, none, none, none, none, none, none, none, none, none, none, none] 203) 203
  refine cr_aload_n h (j := 0) rfl rfl dX9_init_50 ?_
  refine cr_iconst h (v := (4 : Int32)) (by decide) dX9_init_51 ?_
  refine cr_newa h wA_int (N := 4) (by decide) (by decide) rfl (fun k => hZ.aI (by decide) (Nat.le_refl _)) ⟨⟨by decide, by decide, by decide, by decide⟩, rfl, rfl⟩ dX9_init_52 ?_
  rw [hZ.opI 4 (by decide), hZ.advR (n := 203) (m := 204) (by decide) (by decide) (by decide +kernel)]
  show cr_V Γ 54 [.ref 200] [.ref 203, .ref 200] (cr_sB (cr_nf I cr_I0 0 200 [0, 0, 0, 0, 0, 0, 0, 0, 0, 0, 0, 0, 0, 0, 0, 0, 0, 0, 0, 0, 0, 0, 0, 0, 0, 0, 0, 0, 0, 0, 0, 0, 0, 0, 0, 0, 0, 0, 0, 0, 0, 0, 0, 0, 0, 0, 0, 0, 0, 0, 0, 0, 0, 0, 0, 0, 0, 0, 0, 0, 0, 0, 0, 0, 0] 204) 0 203 [0, 0, 0, 0]) (cr_nf R cr_RF none 200 [some 201, some 202, none, none, none, none, none, none, none, none, none, none, none, none, none, none, none, none, none, none, none, none, none, none, none, none, none, none, none, none, none, none, none, none, none, none, none, none, none, none, none, none, none, none, none, none, none, none, none, none, none, none, none, none, none, none, none, none, none, none, none, none, none, none, none] 204) 204
  refine cr_dup h rfl dX9_init_54 ?_
  refine cr_iconst h (v := (0 : Int32)) (by decide) dX9_init_55 ?_
  refine cr_iconst h (v := (2 : Int32)) (by decide) dX9_init_56 ?_
  refine cr_iast h (by decide) (by decide) rfl ⟨by decide, by decide⟩ dX9_init_57 ?_
  rw [cr_sB_put (by decide)]
  show cr_V Γ 58 [.ref 200] [.ref 203, .ref 200] (cr_sB (cr_nf I cr_I0 0 200 [0, 0, 0, 0, 0, 0, 0, 0, 0, 0, 0, 0, 0, 0, 0, 0, 0, 0, 0, 0, 0, 0, 0, 0, 0, 0, 0, 0, 0, 0, 0, 0, 0, 0, 0, 0, 0, 0, 0, 0, 0, 0, 0, 0, 0, 0, 0, 0, 0, 0, 0, 0, 0, 0, 0, 0, 0, 0, 0, 0, 0, 0, 0, 0, 0] 204) 0 203 [2, 0, 0, 0]) (cr_nf R cr_RF none 200 [some 201, some 202, none, none, none, none, none, none, none, none, none, none, none, none, none, none, none, none, none, none, none, none, none, none, none, none, none, none, none, none, none, none, none, none, none, none, none, none, none, none, none, none, none, none, none, none, none, none, none, none, none, none, none, none, none, none, none, none, none, none, none, none, none, none, none] 204) 204
  refine cr_dup h rfl dX9_init_58 ?_
  refine cr_iconst h (v := (1 : Int32)) (by decide) dX9_init_59 ?_
  refine cr_iconst h (v := (2 : Int32)) (by decide) dX9_init_60 ?_
  refine cr_iast h (by decide) (by decide) rfl ⟨by decide, by decide⟩ dX9_init_61 ?_
  rw [cr_sB_put (by decide)]
  show cr_V Γ 62 [.ref 200] [.ref 203, .ref 200] (cr_sB (cr_nf I cr_I0 0 200 [0, 0, 0, 0, 0, 0, 0, 0, 0, 0, 0, 0, 0, 0, 0, 0, 0, 0, 0, 0, 0, 0, 0, 0, 0, 0, 0, 0, 0, 0, 0, 0, 0, 0, 0, 0, 0, 0, 0, 0, 0, 0, 0, 0, 0, 0, 0, 0, 0, 0, 0, 0, 0, 0, 0, 0, 0, 0, 0, 0, 0, 0, 0, 0, 0] 204) 0 203 [2, 2, 0, 0]) (cr_nf R cr_RF none 200 [some 201, some 202, none, none, none, none, none, none, none, none, none, none, none, none, none, none, none, none, none, none, none, none, none, none, none, none, none, none, none, none, none, none, none, none, none, none, none, none, none, none, none, none, none, none, none, none, none, none, none, none, none, none, none, none, none, none, none, none, none, none, none, none, none, none, none] 204) 204
  refine cr_dup h rfl dX9_init_62 ?_
  refine cr_iconst h (v := (2 : Int32)) (by decide) dX9_init_63 ?_
  refine cr_iconst h (v := (2 : Int32)) (by decide) dX9_init_64 ?_
  refine cr_iast h (by decide) (by decide) rfl ⟨by decide, by decide⟩ dX9_init_65 ?_
  rw [cr_sB_put (by decide)]
  show cr_V Γ 66 [.ref 200] [.ref 203, .ref 200] (cr_sB (cr_nf I cr_I0 0 200 [0, 0, 0, 0, 0, 0, 0, 0, 0, 0, 0, 0, 0, 0, 0, 0, 0, 0, 0, 0, 0, 0, 0, 0, 0, 0, 0, 0, 0, 0, 0, 0, 0, 0, 0, 0, 0, 0, 0, 0, 0, 0, 0, 0, 0, 0, 0, 0, 0, 0, 0, 0, 0, 0, 0, 0, 0, 0, 0, 0, 0, 0, 0, 0, 0] 204) 0 203 [2, 2, 2, 0]) (cr_nf R cr_RF none 200 [some 201, some 202, none, none, none, none, none, none, none, none, none, none, none, none, none, none, none, none, none, none, none, none, none, none, none, none, none, none, none, none, none, none, none, none, none, none, none, none, none, none, none, none, none, none, none, none, none, none, none, none, none, none, none, none, none, none, none, none, none, none, none, none, none, none, none] 204) 204
  refine cr_dup h rfl dX9_init_66 ?_
  refine cr_iconst h (v := (3 : Int32)) (by decide) dX9_init_67 ?_
  refine cr_iconst h (v := (2 : Int32)) (by decide) dX9_init_68 ?_
  refine cr_iast h (by decide) (by decide) rfl ⟨by decide, by decide⟩ dX9_init_69 ?_
  rw [cr_sB_put (by decide)]
  show cr_V Γ 70 [.ref 200] [.ref 203, .ref 200] (cr_sB (cr_nf I cr_I0 0 200 [0, 0, 0, 0, 0, 0, 0, 0, 0, 0, 0, 0, 0, 0, 0, 0, 0, 0, 0, 0, 0, 0, 0, 0, 0, 0, 0, 0, 0, 0, 0, 0, 0, 0, 0, 0, 0, 0, 0, 0, 0, 0, 0, 0, 0, 0, 0, 0, 0, 0, 0, 0, 0, 0, 0, 0, 0, 0, 0, 0, 0, 0, 0, 0, 0] 204) 0 203 [2, 2, 2, 2]) (cr_nf R cr_RF none 200 [some 201, some 202, none, none, none, none, none, none, none, none, none, none, none, none, none, none, none, none, none, none, none, none, none, none, none, none, none, none, none, none, none, none, none, none, none, none, none, none, none, none, none, none, none, none, none, none, none, none, none, none, none, none, none, none, none, none, none, none, none, none, none, none, none, none, none] 204) 204
  rw [cr_nf_close (by decide) (by decide) (cr_I0_of (by decide +kernel))]
  refine cr_putRF h cr_clsX9 (k := 2) (by decide) (by decide) (Or.inr ⟨_, rfl⟩) rfl rfl rfl rfl wf_X9_16 (by decide) (by decide) rfl dX9_init_70 ?_
  unfold cr_nf
  rw [cr_sB_put (by decide)]
  show cr_V Γ 73 [.ref 200] [] (cr_nf I cr_I0 0 200 [0, 0, 0, 0, 0, 0, 0, 0, 0, 0, 0, 0, 0, 0, 0, 0, 0, 0, 0, 0, 0, 0, 0, 0, 0, 0, 0, 0, 0, 0, 0, 0, 0, 0, 0, 0, 0, 0, 0, 0, 0, 0, 0, 0, 0, 0, 0, 0, 0, 0, 0, 0, 0, 0, 0, 0, 0, 0, 0, 0, 0, 0, 0, 0, 0] 204) (cr_nf R cr_RF none 200 [some 201, some 202, some 203, none, none, none, none, none, none, none, none, none, none, none, none, none, none, none, none, none, none, none, none, none, none, none, none, none, none, none, none, none, none, none, none, none, none, none, none, none, none, none, none, none, none, none, none, none, none, none, none, none, none, none, none, none, none, none, none, none, none, none, none, none, none] 204) 204
  refine cr_aload_n h (j := 0) rfl rfl dX9_init_73 ?_
  refine cr_iconst h (v := (4 : Int32)) (by decide) dX9_init_74 ?_
  refine cr_newa h wA_int (N := 4) (by decide) (by decide) rfl (fun k => hZ.aI (by decide) (Nat.le_refl _)) ⟨⟨by decide, by decide, by decide, by decide⟩, rfl, rfl⟩ dX9_init_75 ?_
  rw [hZ.advI (n := 204) (m := 205) (by decide) (by decide) (by decide +kernel), hZ.advR (n := 204) (m := 205) (by decide) (by decide) (by decide +kernel)]
  show cr_V Γ 77 [.ref 200] [.ref 204, .ref 200] (cr_nf I cr_I0 0 200 [0, 0, 0, 0, 0, 0, 0, 0, 0, 0, 0, 0, 0, 0, 0, 0, 0, 0, 0, 0, 0, 0, 0, 0, 0, 0, 0, 0, 0, 0, 0, 0, 0, 0, 0, 0, 0, 0, 0, 0, 0, 0, 0, 0, 0, 0, 0, 0, 0, 0, 0, 0, 0, 0, 0, 0, 0, 0, 0, 0, 0, 0, 0, 0, 0] 205) (cr_nf R cr_RF none 200 [some 201, some 202, some 203, none, none, none, none, none, none, none, none, none, none, none, none, none, none, none, none, none, none, none, none, none, none, none, none, none, none, none, none, none, none, none, none, none, none, none, none, none, none, none, none, none, none, none, none, none, none, none, none, none, none, none, none, none, none, none, none, none, none, none, none, none, none] 205) 205
  refine cr_putRF h cr_clsX9 (k := 3) (by decide) (by decide) (Or.inr ⟨_, rfl⟩) rfl rfl rfl rfl wf_X9_19 (by decide) (by decide) rfl dX9_init_77 ?_
  unfold cr_nf
  rw [cr_sB_put (by decide)]
  show cr_V Γ 80 [.ref 200] [] (cr_nf I cr_I0 0 200 [0, 0, 0, 0, 0, 0, 0, 0, 0, 0, 0, 0, 0, 0, 0, 0, 0, 0, 0, 0, 0, 0, 0, 0, 0, 0, 0, 0, 0, 0, 0, 0, 0, 0, 0, 0, 0, 0, 0, 0, 0, 0, 0, 0, 0, 0, 0, 0, 0, 0, 0, 0, 0, 0, 0, 0, 0, 0, 0, 0, 0, 0, 0, 0, 0] 205) (cr_nf R cr_RF none 200 [some 201, some 202, some 203, some 204, none, none, none, none, none, none, none, none, none, none, none, none, none, none, none, none, none, none, none, none, none, none, none, none, none, none, none, none, none, none, none, none, none, none, none, none, none, none, none, none, none, none, none, none, none, none, none, none, none, none, none, none, none, none, none, none, none, none, none, none, none] 205) 205
  refine cr_aload_n h (j := 0) rfl rfl dX9_init_80 ?_
  refine cr_sipush h (v := (160 : Int32)) (by decide) dX9_init_81 ?_
  refine cr_newa h wA_int (N := 160) (by decide) (by decide) rfl (fun k => hZ.aI (by decide) (Nat.le_refl _)) ⟨⟨by decide, by decide, by decide, by decide⟩, rfl, rfl⟩ dX9_init_84 ?_
  rw [hZ.advI (n := 205) (m := 206) (by decide) (by decide) (by decide +kernel), hZ.advR (n := 205) (m := 206) (by decide) (by decide) (by decide +kernel)]
  show cr_V Γ 86 [.ref 200] [.ref 205, .ref 200] (cr_nf I cr_I0 0 200 [0, 0, 0, 0, 0, 0, 0, 0, 0, 0, 0, 0, 0, 0, 0, 0, 0, 0, 0, 0, 0, 0, 0, 0, 0, 0, 0, 0, 0, 0, 0, 0, 0, 0, 0, 0, 0, 0, 0, 0, 0, 0, 0, 0, 0, 0, 0, 0, 0, 0, 0, 0, 0, 0, 0, 0, 0, 0, 0, 0, 0, 0, 0, 0, 0] 206) (cr_nf R cr_RF none 200 [some 201, some 202, some 203, some 204, none, none, none, none, none, none, none, none, none, none, none, none, none, none, none, none, none, none, none, none, none, none, none, none, none, none, none, none, none, none, none, none, none, none, none, none, none, none, none, none, none, none, none, none, none, none, none, none, none, none, none, none, none, none, none, none, none, none, none, none, none] 206) 206
  refine cr_putRF h cr_clsX9 (k := 4) (by decide) (by decide) (Or.inr ⟨_, rfl⟩) rfl rfl rfl rfl wf_X9_22 (by decide) (by decide) rfl dX9_init_86 ?_
  unfold cr_nf
  rw [cr_sB_put (by decide)]
  show cr_V Γ 89 [.ref 200] [] (cr_nf I cr_I0 0 200 [0, 0, 0, 0, 0, 0, 0, 0, 0, 0, 0, 0, 0, 0, 0, 0, 0, 0, 0, 0, 0, 0, 0, 0, 0, 0, 0, 0, 0, 0, 0, 0, 0, 0, 0, 0, 0, 0, 0, 0, 0, 0, 0, 0, 0, 0, 0, 0, 0, 0, 0, 0, 0, 0, 0, 0, 0, 0, 0, 0, 0, 0, 0, 0, 0] 206) (cr_nf R cr_RF none 200 [some 201, some 202, some 203, some 204, some 205, none, none, none, none, none, none, none, none, none, none, none, none, none, none, none, none, none, none, none, none, none, none, none, none, none, none, none, none, none, none, none, none, none, none, none, none, none, none, none, none, none, none, none, none, none, none, none, none, none, none, none, none, none, none, none, none, none, none, none, none] 206) 206
  refine cr_aload_n h (j := 0) rfl rfl dX9_init_89 ?_
  refine cr_iconst h (v := (5 : Int32)) (by decide) dX9_init_90 ?_
  refine cr_newa h wA_int (N := 5) (by decide) (by decide) rfl (fun k => hZ.aI (by decide) (Nat.le_refl _)) ⟨⟨by decide, by decide, by decide, by decide⟩, rfl, rfl⟩ dX9_init_91 ?_
  rw [hZ.advI (n := 206) (m := 207) (by decide) (by decide) (by decide +kernel), hZ.advR (n := 206) (m := 207) (by decide) (by decide) (by decide +kernel)]
  show cr_V Γ 93 [.ref 200] [.ref 206, .ref 200] (cr_nf I cr_I0 0 200 [0, 0, 0, 0, 0, 0, 0, 0, 0, 0, 0, 0, 0, 0, 0, 0, 0, 0, 0, 0, 0, 0, 0, 0, 0, 0, 0, 0, 0, 0, 0, 0, 0, 0, 0, 0, 0, 0, 0, 0, 0, 0, 0, 0, 0, 0, 0, 0, 0, 0, 0, 0, 0, 0, 0, 0, 0, 0, 0, 0, 0, 0, 0, 0, 0] 207) (cr_nf R cr_RF none 200 [some 201, some 202, some 203, some 204, some 205, none, none, none, none, none, none, none, none, none, none, none, none, none, none, none, none, none, none, none, none, none, none, none, none, none, none, none, none, none, none, none, none, none, none, none, none, none, none, none, none, none, none, none, none, none, none, none, none, none, none, none, none, none, none, none, none, none, none, none, none] 207) 207
  refine cr_putRF h cr_clsX9 (k := 6) (by decide) (by decide) (Or.inr ⟨_, rfl⟩) rfl rfl rfl rfl wf_X9_25 (by decide) (by decide) rfl dX9_init_93 ?_
  unfold cr_nf
  rw [cr_sB_put (by decide)]
  show cr_V Γ 96 [.ref 200] [] (cr_nf I cr_I0 0 200 [0, 0, 0, 0, 0, 0, 0, 0, 0, 0, 0, 0, 0, 0, 0, 0, 0, 0, 0, 0, 0, 0, 0, 0, 0, 0, 0, 0, 0, 0, 0, 0, 0, 0, 0, 0, 0, 0, 0, 0, 0, 0, 0, 0, 0, 0, 0, 0, 0, 0, 0, 0, 0, 0, 0, 0, 0, 0, 0, 0, 0, 0, 0, 0, 0] 207) (cr_nf R cr_RF none 200 [some 201, some 202, some 203, some 204, some 205, none, some 206, none, none, none, none, none, none, none, none, none, none, none, none, none, none, none, none, none, none, none, none, none, none, none, none, none, none, none, none, none, none, none, none, none, none, none, none, none, none, none, none, none, none, none, none, none, none, none, none, none, none, none, none, none, none, none, none, none, none] 207) 207
  refine cr_aload_n h (j := 0) rfl rfl dX9_init_96 ?_
  refine cr_bipush h (v := (30 : Int32)) (by decide) dX9_init_97 ?_
  refine cr_newa h wA_int (N := 30) (by decide) (by decide) rfl (fun k => hZ.aI (by decide) (Nat.le_refl _)) ⟨⟨by decide, by decide, by decide, by decide⟩, rfl, rfl⟩ dX9_init_99 ?_
  rw [hZ.advI (n := 207) (m := 208) (by decide) (by decide) (by decide +kernel), hZ.advR (n := 207) (m := 208) (by decide) (by decide) (by decide +kernel)]
  show cr_V Γ 101 [.ref 200] [.ref 207, .ref 200] (cr_nf I cr_I0 0 200 [0, 0, 0, 0, 0, 0, 0, 0, 0, 0, 0, 0, 0, 0, 0, 0, 0, 0, 0, 0, 0, 0, 0, 0, 0, 0, 0, 0, 0, 0, 0, 0, 0, 0, 0, 0, 0, 0, 0, 0, 0, 0, 0, 0, 0, 0, 0, 0, 0, 0, 0, 0, 0, 0, 0, 0, 0, 0, 0, 0, 0, 0, 0, 0, 0] 208) (cr_nf R cr_RF none 200 [some 201, some 202, some 203, some 204, some 205, none, some 206, none, none, none, none, none, none, none, none, none, none, none, none, none, none, none, none, none, none, none, none, none, none, none, none, none, none, none, none, none, none, none, none, none, none, none, none, none, none, none, none, none, none, none, none, none, none, none, none, none, none, none, none, none, none, none, none, none, none] 208) 208
  refine cr_putRF h cr_clsX9 (k := 7) (by decide) (by decide) (Or.inr ⟨_, rfl⟩) rfl rfl rfl rfl wf_X9_28 (by decide) (by decide) rfl dX9_init_101 ?_
  unfold cr_nf
  rw [cr_sB_put (by decide)]
  show cr_V Γ 104 [.ref 200] [] (cr_nf I cr_I0 0 200 [0, 0, 0, 0, 0, 0, 0, 0, 0, 0, 0, 0, 0, 0, 0, 0, 0, 0, 0, 0, 0, 0, 0, 0, 0, 0, 0, 0, 0, 0, 0, 0, 0, 0, 0, 0, 0, 0, 0, 0, 0, 0, 0, 0, 0, 0, 0, 0, 0, 0, 0, 0, 0, 0, 0, 0, 0, 0, 0, 0, 0, 0, 0, 0, 0] 208) (cr_nf R cr_RF none 200 [some 201, some 202, some 203, some 204, some 205, none, some 206, some 207, none, none, none, none, none, none, none, none, none, none, none, none, none, none, none, none, none, none, none, none, none, none, none, none, none, none, none, none, none, none, none, none, none, none, none, none, none, none, none, none, none, none, none, none, none, none, none, none, none, none, none, none, none, none, none, none, none] 208) 208
  refine cr_aload_n h (j := 0) rfl rfl dX9_init_104 ?_
  refine cr_bipush h (v := (30 : Int32)) (by decide) dX9_init_105 ?_
  refine cr_newa h wA_int (N := 30) (by decide) (by decide) rfl (fun k => hZ.aI (by decide) (Nat.le_refl _)) ⟨⟨by decide, by decide, by decide, by decide⟩, rfl, rfl⟩ dX9_init_107 ?_
  rw [hZ.advI (n := 208) (m := 209) (by decide) (by decide) (by decide +kernel), hZ.advR (n := 208) (m := 209) (by decide) (by decide) (by decide +kernel)]
  show cr_V Γ 109 [.ref 200] [.ref 208, .ref 200] (cr_nf I cr_I0 0 200 [0, 0, 0, 0, 0, 0, 0, 0, 0, 0, 0, 0, 0, 0, 0, 0, 0, 0, 0, 0, 0, 0, 0, 0, 0, 0, 0, 0, 0, 0, 0, 0, 0, 0, 0, 0, 0, 0, 0, 0, 0, 0, 0, 0, 0, 0, 0, 0, 0, 0, 0, 0, 0, 0, 0, 0, 0, 0, 0, 0, 0, 0, 0, 0, 0] 209) (cr_nf R cr_RF none 200 [some 201, some 202, some 203, some 204, some 205, none, some 206, some 207, none, none, none, none, none, none, none, none, none, none, none, none, none, none, none, none, none, none, none, none, none, none, none, none, none, none, none, none, none, none, none, none, none, none, none, none, none, none, none, none, none, none, none, none, none, none, none, none, none, none, none, none, none, none, none, none, none] 209) 209
  refine cr_putRF h cr_clsX9 (k := 8) (by decide) (by decide) (Or.inr ⟨_, rfl⟩) rfl rfl rfl rfl wf_X9_31 (by decide) (by decide) rfl dX9_init_109 ?_
  unfold cr_nf
  rw [cr_sB_put (by decide)]
  show cr_V Γ 112 [.ref 200] [] (cr_nf I cr_I0 0 200 [0, 0, 0, 0, 0, 0, 0, 0, 0, 0, 0, 0, 0, 0, 0, 0, 0, 0, 0, 0, 0, 0, 0, 0, 0, 0, 0, 0, 0, 0, 0, 0, 0, 0, 0, 0, 0, 0, 0, 0, 0, 0, 0, 0, 0, 0, 0, 0, 0, 0, 0, 0, 0, 0, 0, 0, 0, 0, 0, 0, 0, 0, 0, 0, 0] 209) (cr_nf R cr_RF none 200 [some 201, some 202, some 203, some 204, some 205, none, some 206, some 207, some 208, none, none, none, none, none, none, none, none, none, none, none, none, none, none, none, none, none, none, none, none, none, none, none, none, none, none, none, none, none, none, none, none, none, none, none, none, none, none, none, none, none, none, none, none, none, none, none, none, none, none, none, none, none, none, none, none] 209) 209
  refine cr_aload_n h (j := 0) rfl rfl dX9_init_112 ?_
  refine cr_bipush h (v := (30 : Int32)) (by decide) dX9_init_113 ?_
  refine cr_newa h wA_int (N := 30) (by decide) (by decide) rfl (fun k => hZ.aI (by decide) (Nat.le_refl _)) ⟨⟨by decide, by decide, by decide, by decide⟩, rfl, rfl⟩ dX9_init_115 ?_
  rw [hZ.advI (n := 209) (m := 210) (by decide) (by decide) (by decide +kernel), hZ.advR (n := 209) (m := 210) (by decide) (by decide) (by decide +kernel)]
  show cr_V Γ 117 [.ref 200] [.ref 209, .ref 200] (cr_nf I cr_I0 0 200 [0, 0, 0, 0, 0, 0, 0, 0, 0, 0, 0, 0, 0, 0, 0, 0, 0, 0, 0, 0, 0, 0, 0, 0, 0, 0, 0, 0, 0, 0, 0, 0, 0, 0, 0, 0, 0, 0, 0, 0, 0, 0, 0, 0, 0, 0, 0, 0, 0, 0, 0, 0, 0, 0, 0, 0, 0, 0, 0, 0, 0, 0, 0, 0, 0] 210) (cr_nf R cr_RF none 200 [some 201, some 202, some 203, some 204, some 205, none, some 206, some 207, some 208, none, none, none, none, none, none, none, none, none, none, none, none, none, none, none, none, none, none, none, none, none, none, none, none, none, none, none, none, none, none, none, none, none, none, none, none, none, none, none, none, none, none, none, none, none, none, none, none, none, none, none, none, none, none, none, none] 210) 210
  refine cr_putRF h cr_clsX9 (k := 9) (by decide) (by decide) (Or.inr ⟨_, rfl⟩) rfl rfl rfl rfl wf_X9_34 (by decide) (by decide) rfl dX9_init_117 ?_
  unfold cr_nf
  rw [cr_sB_put (by decide)]
  show cr_V Γ 120 [.ref 200] [] (cr_nf I cr_I0 0 200 [0, 0, 0, 0, 0, 0, 0, 0, 0, 0, 0, 0, 0, 0, 0, 0, 0, 0, 0, 0, 0, 0, 0, 0, 0, 0, 0, 0, 0, 0, 0, 0, 0, 0, 0, 0, 0, 0, 0, 0, 0, 0, 0, 0, 0, 0, 0, 0, 0, 0, 0, 0, 0, 0, 0, 0, 0, 0, 0, 0, 0, 0, 0, 0, 0] 210) (cr_nf R cr_RF none 200 [some 201, some 202, some 203, some 204, some 205, none, some 206, some 207, some 208, some 209, none, none, none, none, none, none, none, none, none, none, none, none, none, none, none, none, none, none, none, none, none, none, none, none, none, none, none, none, none, none, none, none, none, none, none, none, none, none, none, none, none, none, none, none, none, none, none, none, none, none, none, none, none, none, none] 210) 210
  refine cr_aload_n h (j := 0) rfl rfl dX9_init_120 ?_
  refine cr_bipush h (v := (120 : Int32)) (by decide) dX9_init_121 ?_
  refine cr_newa h wA_int (N := 120) (by decide) (by decide) rfl (fun k => hZ.aI (by decide) (Nat.le_refl _)) ⟨⟨by decide, by decide, by decide, by decide⟩, rfl, rfl⟩ dX9_init_123 ?_
  rw [hZ.advI (n := 210) (m := 211) (by decide) (by decide) (by decide +kernel), hZ.advR (n := 210) (m := 211) (by decide) (by decide) (by decide +kernel)]
  show cr_V Γ 125 [.ref 200] [.ref 210, .ref 200] (cr_nf I cr_I0 0 200 [0, 0, 0, 0, 0, 0, 0, 0, 0, 0, 0, 0, 0, 0, 0, 0, 0, 0, 0, 0, 0, 0, 0, 0, 0, 0, 0, 0, 0, 0, 0, 0, 0, 0, 0, 0, 0, 0, 0, 0, 0, 0, 0, 0, 0, 0, 0, 0, 0, 0, 0, 0, 0, 0, 0, 0, 0, 0, 0, 0, 0, 0, 0, 0, 0] 211) (cr_nf R cr_RF none 200 [some 201, some 202, some 203, some 204, some 205, none, some 206, some 207, some 208, some 209, none, none, none, none, none, none, none, none, none, none, none, none, none, none, none, none, none, none, none, none, none, none, none, none, none, none, none, none, none, none, none, none, none, none, none, none, none, none, none, none, none, none, none, none, none, none, none, none, none, none, none, none, none, none, none] 211) 211
  refine cr_putRF h cr_clsX9 (k := 10) (by decide) (by decide) (Or.inr ⟨_, rfl⟩) rfl rfl rfl rfl wf_X9_37 (by decide) (by decide) rfl dX9_init_125 ?_
  unfold cr_nf
  rw [cr_sB_put (by decide)]
  show cr_V Γ 128 [.ref 200] [] (cr_nf I cr_I0 0 200 [0, 0, 0, 0, 0, 0, 0, 0, 0, 0, 0, 0, 0, 0, 0, 0, 0, 0, 0, 0, 0, 0, 0, 0, 0, 0, 0, 0, 0, 0, 0, 0, 0, 0, 0, 0, 0, 0, 0, 0, 0, 0, 0, 0, 0, 0, 0, 0, 0, 0, 0, 0, 0, 0, 0, 0, 0, 0, 0, 0, 0, 0, 0, 0, 0] 211) (cr_nf R cr_RF none 200 [some 201, some 202, some 203, some 204, some 205, none, some 206, some 207, some 208, some 209, some 210, none, none, none, none, none, none, none, none, none, none, none, none, none, none, none, none, none, none, none, none, none, none, none, none, none, none, none, none, none, none, none, none, none, none, none, none, none, none, none, none, none, none, none, none, none, none, none, none, none, none, none, none, none, none] 211) 211
  refine cr_aload_n h (j := 0) rfl rfl dX9_init_128 ?_
  refine cr_bipush h (v := (120 : Int32)) (by decide) dX9_init_129 ?_
  refine cr_newa h wA_int (N := 120) (by decide) (by decide) rfl (fun k => hZ.aI (by decide) (Nat.le_refl _)) ⟨⟨by decide, by decide, by decide, by decide⟩, rfl, rfl⟩ dX9_init_131 ?_
  rw [hZ.advI (n := 211) (m := 212) (by decide) (by decide) (by decide +kernel), hZ.advR (n := 211) (m := 212) (by decide) (by decide) (by decide +kernel)]
  show cr_V Γ 133 [.ref 200] [.ref 211, .ref 200] (cr_nf I cr_I0 0 200 [0, 0, 0, 0, 0, 0, 0, 0, 0, 0, 0, 0, 0, 0, 0, 0, 0, 0, 0, 0, 0, 0, 0, 0, 0, 0, 0, 0, 0, 0, 0, 0, 0, 0, 0, 0, 0, 0, 0, 0, 0, 0, 0, 0, 0, 0, 0, 0, 0, 0, 0, 0, 0, 0, 0, 0, 0, 0, 0, 0, 0, 0, 0, 0, 0] 212) (cr_nf R cr_RF none 200 [some 201, some 202, some 203, some 204, some 205, none, some 206, some 207, some 208, some 209, some 210, none, none, none, none, none, none, none, none, none, none, none, none, none, none, none, none, none, none, none, none, none, none, none, none, none, none, none, none, none, none, none, none, none, none, none, none, none, none, none, none, none, none, none, none, none, none, none, none, none, none, none, none, none, none] 212) 212
  refine cr_putRF h cr_clsX9 (k := 11) (by decide) (by decide) (Or.inr ⟨_, rfl⟩) rfl rfl rfl rfl wf_X9_40 (by decide) (by decide) rfl dX9_init_133 ?_
  unfold cr_nf
  rw [cr_sB_put (by decide)]
  show cr_V Γ 136 [.ref 200] [] (cr_nf I cr_I0 0 200 [0, 0, 0, 0, 0, 0, 0, 0, 0, 0, 0, 0, 0, 0, 0, 0, 0, 0, 0, 0, 0, 0, 0, 0, 0, 0, 0, 0, 0, 0, 0, 0, 0, 0, 0, 0, 0, 0, 0, 0, 0, 0, 0, 0, 0, 0, 0, 0, 0, 0, 0, 0, 0, 0, 0, 0, 0, 0, 0, 0, 0, 0, 0, 0, 0] 212) (cr_nf R cr_RF none 200 [some 201, some 202, some 203, some 204, some 205, none, some 206, some 207, some 208, some 209, some 210, some 211, none, none, none, none, none, none, none, none, none, none, none, none, none, none, none, none, none, none, none, none, none, none, none, none, none, none, none, none, none, none, none, none, none, none, none, none, none, none, none, none, none, none, none, none, none, none, none, none, none, none, none, none, none] 212) 212
  refine cr_aload_n h (j := 0) rfl rfl dX9_init_136 ?_
  refine cr_bipush h (v := (120 : Int32)) (by decide) dX9_init_137 ?_
  refine cr_newa h wA_int (N := 120) (by decide) (by decide) rfl (fun k => hZ.aI (by decide) (Nat.le_refl _)) ⟨⟨by decide, by decide, by decide, by decide⟩, rfl, rfl⟩ dX9_init_139 ?_
  rw [hZ.advI (n := 212) (m := 213) (by decide) (by decide) (by decide +kernel), hZ.advR (n := 212) (m := 213) (by decide) (by decide) (by decide +kernel)]
  show cr_V Γ 141 [.ref 200] [.ref 212, .ref 200] (cr_nf I cr_I0 0 200 [0, 0, 0, 0, 0, 0, 0, 0, 0, 0, 0, 0, 0, 0, 0, 0, 0, 0, 0, 0, 0, 0, 0, 0, 0, 0, 0, 0, 0, 0, 0, 0, 0, 0, 0, 0, 0, 0, 0, 0, 0, 0, 0, 0, 0, 0, 0, 0, 0, 0, 0, 0, 0, 0, 0, 0, 0, 0, 0, 0, 0, 0, 0, 0, 0] 213) (cr_nf R cr_RF none 200 [some 201, some 202, some 203, some 204, some 205, none, some 206, some 207, some 208, some 209, some 210, some 211, none, none, none, none, none, none, none, none, none, none, none, none, none, none, none, none, none, none, none, none, none, none, none, none, none, none, none, none, none, none, none, none, none, none, none, none, none, none, none, none, none, none, none, none, none, none, none, none, none, none, none, none, none] 213) 213
  refine cr_putRF h cr_clsX9 (k := 12) (by decide) (by decide) (Or.inr ⟨_, rfl⟩) rfl rfl rfl rfl wf_X9_43 (by decide) (by decide) rfl dX9_init_141 ?_
  unfold cr_nf
  rw [cr_sB_put (by decide)]
  show cr_V Γ 144 [.ref 200] [] (cr_nf I cr_I0 0 200 [0, 0, 0, 0, 0, 0, 0, 0, 0, 0, 0, 0, 0, 0, 0, 0, 0, 0, 0, 0, 0, 0, 0, 0, 0, 0, 0, 0, 0, 0, 0, 0, 0, 0, 0, 0, 0, 0, 0, 0, 0, 0, 0, 0, 0, 0, 0, 0, 0, 0, 0, 0, 0, 0, 0, 0, 0, 0, 0, 0, 0, 0, 0, 0, 0] 213) (cr_nf R cr_RF none 200 [some 201, some 202, some 203, some 204, some 205, none, some 206, some 207, some 208, some 209, some 210, some 211, some 212, none, none, none, none, none, none, none, none, none, none, none, none, none, none, none, none, none, none, none, none, none, none, none, none, none, none, none, none, none, none, none, none, none, none, none, none, none, none, none, none, none, none, none, none, none, none, none, none, none, none, none, none] 213) 213
  refine cr_aload_n h (j := 0) rfl rfl dX9_init_144 ?_
  refine cr_iconst h (v := (1 : Int32)) (by decide) dX9_init_145 ?_
  refine cr_putI h cr_clsX9 (k := 13) (by decide) (by decide) rfl rfl rfl wf_X9_46 (by decide) (by decide) rfl dX9_init_146 ?_
  unfold cr_nf
  rw [cr_sB_put (by decide)]
  show cr_V Γ 149 [.ref 200] [] (cr_nf I cr_I0 0 200 [0, 0, 0, 0, 0, 0, 0, 0, 0, 0, 0, 0, 0, 1, 0, 0, 0, 0, 0, 0, 0, 0, 0, 0, 0, 0, 0, 0, 0, 0, 0, 0, 0, 0, 0, 0, 0, 0, 0, 0, 0, 0, 0, 0, 0, 0, 0, 0, 0, 0, 0, 0, 0, 0, 0, 0, 0, 0, 0, 0, 0, 0, 0, 0, 0] 213) (cr_nf R cr_RF none 200 [some 201, some 202, some 203, some 204, some 205, none, some 206, some 207, some 208, some 209, some 210, some 211, some 212, none, none, none, none, none, none, none, none, none, none, none, none, none, none, none, none, none, none, none, none, none, none, none, none, none, none, none, none, none, none, none, none, none, none, none, none, none, none, none, none, none, none, none, none, none, none, none, none, none, none, none, none] 213) 213
  refine cr_aload_n h (j := 0) rfl rfl dX9_init_149 ?_
  refine cr_bipush h (v := (6 : Int32)) (by decide) dX9_init_150 ?_
  refine cr_newa h wA_int (N := 6) (by decide) (by decide) rfl (fun k => hZ.aI (by decide) (Nat.le_refl _)) ⟨⟨by decide, by decide, by decide, by decide⟩, rfl, rfl⟩ dX9_init_152 ?_
  rw [hZ.advI (n := 213) (m := 214) (by decide) (by decide) (by decide +kernel), hZ.advR (n := 213) (m := 214) (by decide) (by decide) (by decide +kernel)]
  show cr_V Γ 154 [.ref 200] [.ref 213, .ref 200] (cr_nf I cr_I0 0 200 [0, 0, 0, 0, 0, 0, 0, 0, 0, 0, 0, 0, 0, 1, 0, 0, 0, 0, 0, 0, 0, 0, 0, 0, 0, 0, 0, 0, 0, 0, 0, 0, 0, 0, 0, 0, 0, 0, 0, 0, 0, 0, 0, 0, 0, 0, 0, 0, 0, 0, 0, 0, 0, 0, 0, 0, 0, 0, 0, 0, 0, 0, 0, 0, 0] 214) (cr_nf R cr_RF none 200 [some 201, some 202, some 203, some 204, some 205, none, some 206, some 207, some 208, some 209, some 210, some 211, some 212, none, none, none, none, none, none, none, none, none, none, none, none, none, none, none, none, none, none, none, none, none, none, none, none, none, none, none, none, none, none, none, none, none, none, none, none, none, none, none, none, none, none, none, none, none, none, none, none, none, none, none, none] 214) 214
  refine cr_putRF h cr_clsX9 (k := 14) (by decide) (by decide) (Or.inr ⟨_, rfl⟩) rfl rfl rfl rfl wf_X9_50 (by decide) (by decide) rfl dX9_init_154 ?_
  unfold cr_nf
  rw [cr_sB_put (by decide)]
  show cr_V Γ 157 [.ref 200] [] (cr_nf I cr_I0 0 200 [0, 0, 0, 0, 0, 0, 0, 0, 0, 0, 0, 0, 0, 1, 0, 0, 0, 0, 0, 0, 0, 0, 0, 0, 0, 0, 0, 0, 0, 0, 0, 0, 0, 0, 0, 0, 0, 0, 0, 0, 0, 0, 0, 0, 0, 0, 0, 0, 0, 0, 0, 0, 0, 0, 0, 0, 0, 0, 0, 0, 0, 0, 0, 0, 0] 214) (cr_nf R cr_RF none 200 [some 201, some 202, some 203, some 204, some 205, none, some 206, some 207, some 208, some 209, some 210, some 211, some 212, none, some 213, none, none, none, none, none, none, none, none, none, none, none, none, none, none, none, none, none, none, none, none, none, none, none, none, none, none, none, none, none, none, none, none, none, none, none, none, none, none, none, none, none, none, none, none, none, none, none, none, none, none] 214) 214
  refine cr_aload_n h (j := 0) rfl rfl dX9_init_157 ?_
  refine cr_iconst h (v := (5 : Int32)) (by decide) dX9_init_158 ?_
  refine cr_newa h wA_int (N := 5) (by decide) (by decide) rfl (fun k => hZ.aI (by decide) (Nat.le_refl _)) ⟨⟨by decide, by decide, by decide, by decide⟩, rfl, rfl⟩ dX9_init_159 ?_
  rw [hZ.opI 5 (by decide), hZ.advR (n := 214) (m := 215) (by decide) (by decide) (by decide +kernel)]
  show cr_V Γ 161 [.ref 200] [.ref 214, .ref 200] (cr_sB (cr_nf I cr_I0 0 200 [0, 0, 0, 0, 0, 0, 0, 0, 0, 0, 0, 0, 0, 1, 0, 0, 0, 0, 0, 0, 0, 0, 0, 0, 0, 0, 0, 0, 0, 0, 0, 0, 0, 0, 0, 0, 0, 0, 0, 0, 0, 0, 0, 0, 0, 0, 0, 0, 0, 0, 0, 0, 0, 0, 0, 0, 0, 0, 0, 0, 0, 0, 0, 0, 0] 215) 0 214 [0, 0, 0, 0, 0]) (cr_nf R cr_RF none 200 [some 201, some 202, some 203, some 204, some 205, none, some 206, some 207, some 208, some 209, some 210, some 211, some 212, none, some 213, none, none, none, none, none, none, none, none, none, none, none, none, none, none, none, none, none, none, none, none, none, none, none, none, none, none, none, none, none, none, none, none, none, none, none, none, none, none, none, none, none, none, none, none, none, none, none, none, none, none] 215) 215
  refine cr_dup h rfl dX9_init_161 ?_
  refine cr_iconst h (v := (0 : Int32)) (by decide) dX9_init_162 ?_
  refine cr_bipush h (v := (10 : Int32)) (by decide) dX9_init_163 ?_
  refine cr_iast h (by decide) (by decide) rfl ⟨by decide, by decide⟩ dX9_init_165 ?_
  rw [cr_sB_put (by decide)]
  show cr_V Γ 166 [.ref 200] [.ref 214, .ref 200] (cr_sB (cr_nf I cr_I0 0 200 [0, 0, 0, 0, 0, 0, 0, 0, 0, 0, 0, 0, 0, 1, 0, 0, 0, 0, 0, 0, 0, 0, 0, 0, 0, 0, 0, 0, 0, 0, 0, 0, 0, 0, 0, 0, 0, 0, 0, 0, 0, 0, 0, 0, 0, 0, 0, 0, 0, 0, 0, 0, 0, 0, 0, 0, 0, 0, 0, 0, 0, 0, 0, 0, 0] 215) 0 214 [10, 0, 0, 0, 0]) (cr_nf R cr_RF none 200 [some 201, some 202, some 203, some 204, some 205, none, some 206, some 207, some 208, some 209, some 210, some 211, some 212, none, some 213, none, none, none, none, none, none, none, none, none, none, none, none, none, none, none, none, none, none, none, none, none, none, none, none, none, none, none, none, none, none, none, none, none, none, none, none, none, none, none, none, none, none, none, none, none, none, none, none, none, none] 215) 215
  refine cr_dup h rfl dX9_init_166 ?_
  refine cr_iconst h (v := (1 : Int32)) (by decide) dX9_init_167 ?_
  refine cr_bipush h (v := (20 : Int32)) (by decide) dX9_init_168 ?_
  refine cr_iast h (by decide) (by decide) rfl ⟨by decide, by decide⟩ dX9_init_170 ?_
  rw [cr_sB_put (by decide)]
  show cr_V Γ 171 [.ref 200] [.ref 214, .ref 200] (cr_sB (cr_nf I cr_I0 0 200 [0, 0, 0, 0, 0, 0, 0, 0, 0, 0, 0, 0, 0, 1, 0, 0, 0, 0, 0, 0, 0, 0, 0, 0, 0, 0, 0, 0, 0, 0, 0, 0, 0, 0, 0, 0, 0, 0, 0, 0, 0, 0, 0, 0, 0, 0, 0, 0, 0, 0, 0, 0, 0, 0, 0, 0, 0, 0, 0, 0, 0, 0, 0, 0, 0] 215) 0 214 [10, 20, 0, 0, 0]) (cr_nf R cr_RF none 200 [some 201, some 202, some 203, some 204, some 205, none, some 206, some 207, some 208, some 209, some 210, some 211, some 212, none, some 213, none, none, none, none, none, none, none, none, none, none, none, none, none, none, none, none, none, none, none, none, none, none, none, none, none, none, none, none, none, none, none, none, none, none, none, none, none, none, none, none, none, none, none, none, none, none, none, none, none, none] 215) 215
  refine cr_dup h rfl dX9_init_171 ?_
  refine cr_iconst h (v := (2 : Int32)) (by decide) dX9_init_172 ?_
  refine cr_iconst h (v := (1 : Int32)) (by decide) dX9_init_173 ?_
  refine cr_iast h (by decide) (by decide) rfl ⟨by decide, by decide⟩ dX9_init_174 ?_
  rw [cr_sB_put (by decide)]
  show cr_V Γ 175 [.ref 200] [.ref 214, .ref 200] (cr_sB (cr_nf I cr_I0 0 200 [0, 0, 0, 0, 0, 0, 0, 0, 0, 0, 0, 0, 0, 1, 0, 0, 0, 0, 0, 0, 0, 0, 0, 0, 0, 0, 0, 0, 0, 0, 0, 0, 0, 0, 0, 0, 0, 0, 0, 0, 0, 0, 0, 0, 0, 0, 0, 0, 0, 0, 0, 0, 0, 0, 0, 0, 0, 0, 0, 0, 0, 0, 0, 0, 0] 215) 0 214 [10, 20, 1, 0, 0]) (cr_nf R cr_RF none 200 [some 201, some 202, some 203, some 204, some 205, none, some 206, some 207, some 208, some 209, some 210, some 211, some 212, none, some 213, none, none, none, none, none, none, none, none, none, none, none, none, none, none, none, none, none, none, none, none, none, none, none, none, none, none, none, none, none, none, none, none, none, none, none, none, none, none, none, none, none, none, none, none, none, none, none, none, none, none] 215) 215
  refine cr_dup h rfl dX9_init_175 ?_
  refine cr_iconst h (v := (3 : Int32)) (by decide) dX9_init_176 ?_
  refine cr_iconst h (v := (2 : Int32)) (by decide) dX9_init_177 ?_
  refine cr_iast h (by decide) (by decide) rfl ⟨by decide, by decide⟩ dX9_init_178 ?_
  rw [cr_sB_put (by decide)]
  show cr_V Γ 179 [.ref 200] [.ref 214, .ref 200] (cr_sB (cr_nf I cr_I0 0 200 [0, 0, 0, 0, 0, 0, 0, 0, 0, 0, 0, 0, 0, 1, 0, 0, 0, 0, 0, 0, 0, 0, 0, 0, 0, 0, 0, 0, 0, 0, 0, 0, 0, 0, 0, 0, 0, 0, 0, 0, 0, 0, 0, 0, 0, 0, 0, 0, 0, 0, 0, 0, 0, 0, 0, 0, 0, 0, 0, 0, 0, 0, 0, 0, 0] 215) 0 214 [10, 20, 1, 2, 0]) (cr_nf R cr_RF none 200 [some 201, some 202, some 203, some 204, some 205, none, some 206, some 207, some 208, some 209, some 210, some 211, some 212, none, some 213, none, none, none, none, none, none, none, none, none, none, none, none, none, none, none, none, none, none, none, none, none, none, none, none, none, none, none, none, none, none, none, none, none, none, none, none, none, none, none, none, none, none, none, none, none, none, none, none, none, none] 215) 215
  refine cr_dup h rfl dX9_init_179 ?_
  refine cr_iconst h (v := (4 : Int32)) (by decide) dX9_init_180 ?_
  refine cr_iconst h (v := (1 : Int32)) (by decide) dX9_init_181 ?_
  refine cr_iast h (by decide) (by decide) rfl ⟨by decide, by decide⟩ dX9_init_182 ?_
  rw [cr_sB_put (by decide)]
  show cr_V Γ 183 [.ref 200] [.ref 214, .ref 200] (cr_sB (cr_nf I cr_I0 0 200 [0, 0, 0, 0, 0, 0, 0, 0, 0, 0, 0, 0, 0, 1, 0, 0, 0, 0, 0, 0, 0, 0, 0, 0, 0, 0, 0, 0, 0, 0, 0, 0, 0, 0, 0, 0, 0, 0, 0, 0, 0, 0, 0, 0, 0, 0, 0, 0, 0, 0, 0, 0, 0, 0, 0, 0, 0, 0, 0, 0, 0, 0, 0, 0, 0] 215) 0 214 [10, 20, 1, 2, 1]) (cr_nf R cr_RF none 200 [some 201, some 202, some 203, some 204, some 205, none, some 206, some 207, some 208, some 209, some 210, some 211, some 212, none, some 213, none, none, none, none, none, none, none, none, none, none, none, none, none, none, none, none, none, none, none, none, none, none, none, none, none, none, none, none, none, none, none, none, none, none, none, none, none, none, none, none, none, none, none, none, none, none, none, none, none, none] 215) 215
  rw [cr_nf_close (by decide) (by decide) (cr_I0_of (by decide +kernel))]
  refine cr_putRF h cr_clsX9 (k := 15) (by decide) (by decide) (Or.inr ⟨_, rfl⟩) rfl rfl rfl rfl wf_X9_53 (by decide) (by decide) rfl dX9_init_183 ?_
  unfold cr_nf
  rw [cr_sB_put (by decide)]
  show cr_V Γ 186 [.ref 200] [] (cr_nf I cr_I0 0 200 [0, 0, 0, 0, 0, 0, 0, 0, 0, 0, 0, 0, 0, 1, 0, 0, 0, 0, 0, 0, 0, 0, 0, 0, 0, 0, 0, 0, 0, 0, 0, 0, 0, 0, 0, 0, 0, 0, 0, 0, 0, 0, 0, 0, 0, 0, 0, 0, 0, 0, 0, 0, 0, 0, 0, 0, 0, 0, 0, 0, 0, 0, 0, 0, 0] 215) (cr_nf R cr_RF none 200 [some 201, some 202, some 203, some 204, some 205, none, some 206, some 207, some 208, some 209, some 210, some 211, some 212, none, some 213, some 214, none, none, none, none, none, none, none, none, none, none, none, none, none, none, none, none, none, none, none, none, none, none, none, none, none, none, none, none, none, none, none, none, none, none, none, none, none, none, none, none, none, none, none, none, none, none, none, none, none] 215) 215
  refine cr_aload_n h (j := 0) rfl rfl dX9_init_186 ?_
  refine cr_bipush h (v := (8 : Int32)) (by decide) dX9_init_187 ?_
  refine cr_newa h wA_int (N := 8) (by decide) (by decide) rfl (fun k => hZ.aI (by decide) (Nat.le_refl _)) ⟨⟨by decide, by decide, by decide, by decide⟩, rfl, rfl⟩ dX9_init_189 ?_
  rw [hZ.advI (n := 215) (m := 216) (by decide) (by decide) (by decide +kernel), hZ.advR (n := 215) (m := 216) (by decide) (by decide) (by decide +kernel)]
  show cr_V Γ 191 [.ref 200] [.ref 215, .ref 200] (cr_nf I cr_I0 0 200 [0, 0, 0, 0, 0, 0, 0, 0, 0, 0, 0, 0, 0, 1, 0, 0, 0, 0, 0, 0, 0, 0, 0, 0, 0, 0, 0, 0, 0, 0, 0, 0, 0, 0, 0, 0, 0, 0, 0, 0, 0, 0, 0, 0, 0, 0, 0, 0, 0, 0, 0, 0, 0, 0, 0, 0, 0, 0, 0, 0, 0, 0, 0, 0, 0] 216) (cr_nf R cr_RF none 200 [some 201, some 202, some 203, some 204, some 205, none, some 206, some 207, some 208, some 209, some 210, some 211, some 212, none, some 213, some 214, none, none, none, none, none, none, none, none, none, none, none, none, none, none, none, none, none, none, none, none, none, none, none, none, none, none, none, none, none, none, none, none, none, none, none, none, none, none, none, none, none, none, none, none, none, none, none, none, none] 216) 216
  refine cr_putRF h cr_clsX9 (k := 16) (by decide) (by decide) (Or.inr ⟨_, rfl⟩) rfl rfl rfl rfl wf_X9_56 (by decide) (by decide) rfl dX9_init_191 ?_
  unfold cr_nf
  rw [cr_sB_put (by decide)]
  show cr_V Γ 194 [.ref 200] [] (cr_nf I cr_I0 0 200 [0, 0, 0, 0, 0, 0, 0, 0, 0, 0, 0, 0, 0, 1, 0, 0, 0, 0, 0, 0, 0, 0, 0, 0, 0, 0, 0, 0, 0, 0, 0, 0, 0, 0, 0, 0, 0, 0, 0, 0, 0, 0, 0, 0, 0, 0, 0, 0, 0, 0, 0, 0, 0, 0, 0, 0, 0, 0, 0, 0, 0, 0, 0, 0, 0] 216) (cr_nf R cr_RF none 200 [some 201, some 202, some 203, some 204, some 205, none, some 206, some 207, some 208, some 209, some 210, some 211, some 212, none, some 213, some 214, some 215, none, none, none, none, none, none, none, none, none, none, none, none, none, none, none, none, none, none, none, none, none, none, none, none, none, none, none, none, none, none, none, none, none, none, none, none, none, none, none, none, none, none, none, none, none, none, none, none] 216) 216
  refine cr_aload_n h (j := 0) rfl rfl dX9_init_194 ?_
  refine cr_bipush h (v := (8 : Int32)) (by decide) dX9_init_195 ?_
  refine cr_newa h wA_int (N := 8) (by decide) (by decide) rfl (fun k => hZ.aI (by decide) (Nat.le_refl _)) ⟨⟨by decide, by decide, by decide, by decide⟩, rfl, rfl⟩ dX9_init_197 ?_
  rw [hZ.advI (n := 216) (m := 217) (by decide) (by decide) (by decide +kernel), hZ.advR (n := 216) (m := 217) (by decide) (by decide) (by decide +kernel)]
  show cr_V Γ 199 [.ref 200] [.ref 216, .ref 200] (cr_nf I cr_I0 0 200 [0, 0, 0, 0, 0, 0, 0, 0, 0, 0, 0, 0, 0, 1, 0, 0, 0, 0, 0, 0, 0, 0, 0, 0, 0, 0, 0, 0, 0, 0, 0, 0, 0, 0, 0, 0, 0, 0, 0, 0, 0, 0, 0, 0, 0, 0, 0, 0, 0, 0, 0, 0, 0, 0, 0, 0, 0, 0, 0, 0, 0, 0, 0, 0, 0] 217) (cr_nf R cr_RF none 200 [some 201, some 202, some 203, some 204, some 205, none, some 206, some 207, some 208, some 209, some 210, some 211, some 212, none, some 213, some 214, some 215, none, none, none, none, none, none, none, none, none, none, none, none, none, none, none, none, none, none, none, none, none, none, none, none, none, none, none, none, none, none, none, none, none, none, none, none, none, none, none, none, none, none, none, none, none, none, none, none] 217) 217
  refine cr_putRF h cr_clsX9 (k := 17) (by decide) (by decide) (Or.inr ⟨_, rfl⟩) rfl rfl rfl rfl wf_X9_59 (by decide) (by decide) rfl dX9_init_199 ?_
  unfold cr_nf
  rw [cr_sB_put (by decide)]
  show cr_V Γ 202 [.ref 200] [] (cr_nf I cr_I0 0 200 [0, 0, 0, 0, 0, 0, 0, 0, 0, 0, 0, 0, 0, 1, 0, 0, 0, 0, 0, 0, 0, 0, 0, 0, 0, 0, 0, 0, 0, 0, 0, 0, 0, 0, 0, 0, 0, 0, 0, 0, 0, 0, 0, 0, 0, 0, 0, 0, 0, 0, 0, 0, 0, 0, 0, 0, 0, 0, 0, 0, 0, 0, 0, 0, 0] 217) (cr_nf R cr_RF none 200 [some 201, some 202, some 203, some 204, some 205, none, some 206, some 207, some 208, some 209, some 210, some 211, some 212, none, some 213, some 214, some 215, some 216, none, none, none, none, none, none, none, none, none, none, none, none, none, none, none, none, none, none, none, none, none, none, none, none, none, none, none, none, none, none, none, none, none, none, none, none, none, none, none, none, none, none, none, none, none, none, none] 217) 217
  refine cr_aload_n h (j := 0) rfl rfl dX9_init_202 ?_
  refine cr_iconst h (v := (2 : Int32)) (by decide) dX9_init_203 ?_
  refine cr_newa h wA_int (N := 2) (by decide) (by decide) rfl (fun k => hZ.aI (by decide) (Nat.le_refl _)) ⟨⟨by decide, by decide, by decide, by decide⟩, rfl, rfl⟩ dX9_init_204 ?_
  rw [hZ.advI (n := 217) (m := 218) (by decide) (by decide) (by decide +kernel), hZ.advR (n := 217) (m := 218) (by decide) (by decide) (by decide +kernel)]
  show cr_V Γ 206 [.ref 200] [.ref 217, .ref 200] (cr_nf I cr_I0 0 200 [0, 0, 0, 0, 0, 0, 0, 0, 0, 0, 0, 0, 0, 1, 0, 0, 0, 0, 0, 0, 0, 0, 0, 0, 0, 0, 0, 0, 0, 0, 0, 0, 0, 0, 0, 0, 0, 0, 0, 0, 0, 0, 0, 0, 0, 0, 0, 0, 0, 0, 0, 0, 0, 0, 0, 0, 0, 0, 0, 0, 0, 0, 0, 0, 0] 218) (cr_nf R cr_RF none 200 [some 201, some 202, some 203, some 204, some 205, none, some 206, some 207, some 208, some 209, some 210, some 211, some 212, none, some 213, some 214, some 215, some 216, none, none, none, none, none, none, none, none, none, none, none, none, none, none, none, none, none, none, none, none, none, none, none, none, none, none, none, none, none, none, none, none, none, none, none, none, none, none, none, none, none, none, none, none, none, none, none] 218) 218
  refine cr_putRF h cr_clsX9 (k := 20) (by decide) (by decide) (Or.inr ⟨_, rfl⟩) rfl rfl rfl rfl wf_X9_62 (by decide) (by decide) rfl dX9_init_206 ?_
  unfold cr_nf
  rw [cr_sB_put (by decide)]
  show cr_V Γ 209 [.ref 200] [] (cr_nf I cr_I0 0 200 [0, 0, 0, 0, 0, 0, 0, 0, 0, 0, 0, 0, 0, 1, 0, 0, 0, 0, 0, 0, 0, 0, 0, 0, 0, 0, 0, 0, 0, 0, 0, 0, 0, 0, 0, 0, 0, 0, 0, 0, 0, 0, 0, 0, 0, 0, 0, 0, 0, 0, 0, 0, 0, 0, 0, 0, 0, 0, 0, 0, 0, 0, 0, 0, 0] 218) (cr_nf R cr_RF none 200 [some 201, some 202, some 203, some 204, some 205, none, some 206, some 207, some 208, some 209, some 210, some 211, some 212, none, some 213, some 214, some 215, some 216, none, none, some 217, none, none, none, none, none, none, none, none, none, none, none, none, none, none, none, none, none, none, none, none, none, none, none, none, none, none, none, none, none, none, none, none, none, none, none, none, none, none, none, none, none, none, none, none] 218) 218
  refine cr_aload_n h (j := 0) rfl rfl dX9_init_209 ?_
  refine cr_iconst h (v := (2 : Int32)) (by decide) dX9_init_210 ?_
  refine cr_newa h wA_int (N := 2) (by decide) (by decide) rfl (fun k => hZ.aI (by decide) (Nat.le_refl _)) ⟨⟨by decide, by decide, by decide, by decide⟩, rfl, rfl⟩ dX9_init_211 ?_
  rw [hZ.advI (n := 218) (m := 219) (by decide) (by decide) (by decide +kernel), hZ.advR (n := 218) (m := 219) (by decide) (by decide) (by decide +kernel)]
  show cr_V Γ 213 [.ref 200] [.ref 218, .ref 200] (cr_nf I cr_I0 0 200 [0, 0, 0, 0, 0, 0, 0, 0, 0, 0, 0, 0, 0, 1, 0, 0, 0, 0, 0, 0, 0, 0, 0, 0, 0, 0, 0, 0, 0, 0, 0, 0, 0, 0, 0, 0, 0, 0, 0, 0, 0, 0, 0, 0, 0, 0, 0, 0, 0, 0, 0, 0, 0, 0, 0, 0, 0, 0, 0, 0, 0, 0, 0, 0, 0] 219) (cr_nf R cr_RF none 200 [some 201, some 202, some 203, some 204, some 205, none, some 206, some 207, some 208, some 209, some 210, some 211, some 212, none, some 213, some 214, some 215, some 216, none, none, some 217, none, none, none, none, none, none, none, none, none, none, none, none, none, none, none, none, none, none, none, none, none, none, none, none, none, none, none, none, none, none, none, none, none, none, none, none, none, none, none, none, none, none, none, none] 219) 219
  refine cr_putRF h cr_clsX9 (k := 21) (by decide) (by decide) (Or.inr ⟨_, rfl⟩) rfl rfl rfl rfl wf_X9_65 (by decide) (by decide) rfl dX9_init_213 ?_
  unfold cr_nf
  rw [cr_sB_put (by decide)]
  show cr_V Γ 216 [.ref 200] [] (cr_nf I cr_I0 0 200 [0, 0, 0, 0, 0, 0, 0, 0, 0, 0, 0, 0, 0, 1, 0, 0, 0, 0, 0, 0, 0, 0, 0, 0, 0, 0, 0, 0, 0, 0, 0, 0, 0, 0, 0, 0, 0, 0, 0, 0, 0, 0, 0, 0, 0, 0, 0, 0, 0, 0, 0, 0, 0, 0, 0, 0, 0, 0, 0, 0, 0, 0, 0, 0, 0] 219) (cr_nf R cr_RF none 200 [some 201, some 202, some 203, some 204, some 205, none, some 206, some 207, some 208, some 209, some 210, some 211, some 212, none, some 213, some 214, some 215, some 216, none, none, some 217, some 218, none, none, none, none, none, none, none, none, none, none, none, none, none, none, none, none, none, none, none, none, none, none, none, none, none, none, none, none, none, none, none, none, none, none, none, none, none, none, none, none, none, none, none] 219) 219
  refine cr_aload_n h (j := 0) rfl rfl dX9_init_216 ?_
  refine cr_iconst h (v := (2 : Int32)) (by decide) dX9_init_217 ?_
  refine cr_newa h wA_int (N := 2) (by decide) (by decide) rfl (fun k => hZ.aI (by decide) (Nat.le_refl _)) ⟨⟨by decide, by decide, by decide, by decide⟩, rfl, rfl⟩ dX9_init_218 ?_
  rw [hZ.advI (n := 219) (m := 220) (by decide) (by decide) (by decide +kernel), hZ.advR (n := 219) (m := 220) (by decide) (by decide) (by decide +kernel)]
  show cr_V Γ 220 [.ref 200] [.ref 219, .ref 200] (cr_nf I cr_I0 0 200 [0, 0, 0, 0, 0, 0, 0, 0, 0, 0, 0, 0, 0, 1, 0, 0, 0, 0, 0, 0, 0, 0, 0, 0, 0, 0, 0, 0, 0, 0, 0, 0, 0, 0, 0, 0, 0, 0, 0, 0, 0, 0, 0, 0, 0, 0, 0, 0, 0, 0, 0, 0, 0, 0, 0, 0, 0, 0, 0, 0, 0, 0, 0, 0, 0] 220) (cr_nf R cr_RF none 200 [some 201, some 202, some 203, some 204, some 205, none, some 206, some 207, some 208, some 209, some 210, some 211, some 212, none, some 213, some 214, some 215, some 216, none, none, some 217, some 218, none, none, none, none, none, none, none, none, none, none, none, none, none, none, none, none, none, none, none, none, none, none, none, none, none, none, none, none, none, none, none, none, none, none, none, none, none, none, none, none, none, none, none] 220) 220
  refine cr_putRF h cr_clsX9 (k := 22) (by decide) (by decide) (Or.inr ⟨_, rfl⟩) rfl rfl rfl rfl wf_X9_68 (by decide) (by decide) rfl dX9_init_220 ?_
  unfold cr_nf
  rw [cr_sB_put (by decide)]
  show cr_V Γ 223 [.ref 200] [] (cr_nf I cr_I0 0 200 [0, 0, 0, 0, 0, 0, 0, 0, 0, 0, 0, 0, 0, 1, 0, 0, 0, 0, 0, 0, 0, 0, 0, 0, 0, 0, 0, 0, 0, 0, 0, 0, 0, 0, 0, 0, 0, 0, 0, 0, 0, 0, 0, 0, 0, 0, 0, 0, 0, 0, 0, 0, 0, 0, 0, 0, 0, 0, 0, 0, 0, 0, 0, 0, 0] 220) (cr_nf R cr_RF none 200 [some 201, some 202, some 203, some 204, some 205, none, some 206, some 207, some 208, some 209, some 210, some 211, some 212, none, some 213, some 214, some 215, some 216, none, none, some 217, some 218, some 219, none, none, none, none, none, none, none, none, none, none, none, none, none, none, none, none, none, none, none, none, none, none, none, none, none, none, none, none, none, none, none, none, none, none, none, none, none, none, none, none, none, none] 220) 220
  refine cr_aload_n h (j := 0) rfl rfl dX9_init_223 ?_
  refine cr_iconst h (v := (2 : Int32)) (by decide) dX9_init_224 ?_
  refine cr_newa h wA_int (N := 2) (by decide) (by decide) rfl (fun k => hZ.aI (by decide) (Nat.le_refl _)) ⟨⟨by decide, by decide, by decide, by decide⟩, rfl, rfl⟩ dX9_init_225 ?_
  rw [hZ.advI (n := 220) (m := 221) (by decide) (by decide) (by decide +kernel), hZ.advR (n := 220) (m := 221) (by decide) (by decide) (by decide +kernel)]
  show cr_V Γ 227 [.ref 200] [.ref 220, .ref 200] (cr_nf I cr_I0 0 200 [0, 0, 0, 0, 0, 0, 0, 0, 0, 0, 0, 0, 0, 1, 0, 0, 0, 0, 0, 0, 0, 0, 0, 0, 0, 0, 0, 0, 0, 0, 0, 0, 0, 0, 0, 0, 0, 0, 0, 0, 0, 0, 0, 0, 0, 0, 0, 0, 0, 0, 0, 0, 0, 0, 0, 0, 0, 0, 0, 0, 0, 0, 0, 0, 0] 221) (cr_nf R cr_RF none 200 [some 201, some 202, some 203, some 204, some 205, none, some 206, some 207, some 208, some 209, some 210, some 211, some 212, none, some 213, some 214, some 215, some 216, none, none, some 217, some 218, some 219, none, none, none, none, none, none, none, none, none, none, none, none, none, none, none, none, none, none, none, none, none, none, none, none, none, none, none, none, none, none, none, none, none, none, none, none, none, none, none, none, none, none] 221) 221
  refine cr_putRF h cr_clsX9 (k := 23) (by decide) (by decide) (Or.inr ⟨_, rfl⟩) rfl rfl rfl rfl wf_X9_71 (by decide) (by decide) rfl dX9_init_227 ?_
  unfold cr_nf
  rw [cr_sB_put (by decide)]
  show cr_V Γ 230 [.ref 200] [] (cr_nf I cr_I0 0 200 [0, 0, 0, 0, 0, 0, 0, 0, 0, 0, 0, 0, 0, 1, 0, 0, 0, 0, 0, 0, 0, 0, 0, 0, 0, 0, 0, 0, 0, 0, 0, 0, 0, 0, 0, 0, 0, 0, 0, 0, 0, 0, 0, 0, 0, 0, 0, 0, 0, 0, 0, 0, 0, 0, 0, 0, 0, 0, 0, 0, 0, 0, 0, 0, 0] 221) (cr_nf R cr_RF none 200 [some 201, some 202, some 203, some 204, some 205, none, some 206, some 207, some 208, some 209, some 210, some 211, some 212, none, some 213, some 214, some 215, some 216, none, none, some 217, some 218, some 219, some 220, none, none, none, none, none, none, none, none, none, none, none, none, none, none, none, none, none, none, none, none, none, none, none, none, none, none, none, none, none, none, none, none, none, none, none, none, none, none, none, none, none] 221) 221
  refine cr_aload_n h (j := 0) rfl rfl dX9_init_230 ?_
  refine cr_iconst h (v := (5 : Int32)) (by decide) dX9_init_231 ?_
  refine cr_newa h wA_int (N := 5) (by decide) (by decide) rfl (fun k => hZ.aI (by decide) (Nat.le_refl _)) ⟨⟨by decide, by decide, by decide, by decide⟩, rfl, rfl⟩ dX9_init_232 ?_
  rw [hZ.advI (n := 221) (m := 222) (by decide) (by decide) (by decide +kernel), hZ.advR (n := 221) (m := 222) (by decide) (by decide) (by decide +kernel)]
  show cr_V Γ 234 [.ref 200] [.ref 221, .ref 200] (cr_nf I cr_I0 0 200 [0, 0, 0, 0, 0, 0, 0, 0, 0, 0, 0, 0, 0, 1, 0, 0, 0, 0, 0, 0, 0, 0, 0, 0, 0, 0, 0, 0, 0, 0, 0, 0, 0, 0, 0, 0, 0, 0, 0, 0, 0, 0, 0, 0, 0, 0, 0, 0, 0, 0, 0, 0, 0, 0, 0, 0, 0, 0, 0, 0, 0, 0, 0, 0, 0] 222) (cr_nf R cr_RF none 200 [some 201, some 202, some 203, some 204, some 205, none, some 206, some 207, some 208, some 209, some 210, some 211, some 212, none, some 213, some 214, some 215, some 216, none, none, some 217, some 218, some 219, some 220, none, none, none, none, none, none, none, none, none, none, none, none, none, none, none, none, none, none, none, none, none, none, none, none, none, none, none, none, none, none, none, none, none, none, none, none, none, none, none, none, none] 222) 222
  refine cr_putRF h cr_clsX9 (k := 29) (by decide) (by decide) (Or.inr ⟨_, rfl⟩) rfl rfl rfl rfl wf_X9_74 (by decide) (by decide) rfl dX9_init_234 ?_
  unfold cr_nf
  rw [cr_sB_put (by decide)]
  show cr_V Γ 237 [.ref 200] [] (cr_nf I cr_I0 0 200 [0, 0, 0, 0, 0, 0, 0, 0, 0, 0, 0, 0, 0, 1, 0, 0, 0, 0, 0, 0, 0, 0, 0, 0, 0, 0, 0, 0, 0, 0, 0, 0, 0, 0, 0, 0, 0, 0, 0, 0, 0, 0, 0, 0, 0, 0, 0, 0, 0, 0, 0, 0, 0, 0, 0, 0, 0, 0, 0, 0, 0, 0, 0, 0, 0] 222) (cr_nf R cr_RF none 200 [some 201, some 202, some 203, some 204, some 205, none, some 206, some 207, some 208, some 209, some 210, some 211, some 212, none, some 213, some 214, some 215, some 216, none, none, some 217, some 218, some 219, some 220, none, none, none, none, none, some 221, none, none, none, none, none, none, none, none, none, none, none, none, none, none, none, none, none, none, none, none, none, none, none, none, none, none, none, none, none, none, none, none, none, none, none] 222) 222
  refine cr_aload_n h (j := 0) rfl rfl dX9_init_237 ?_
  refine cr_iconst h (v := (5 : Int32)) (by decide) dX9_init_238 ?_
  refine cr_newa h wA_int (N := 5) (by decide) (by decide) rfl (fun k => hZ.aI (by decide) (Nat.le_refl _)) ⟨⟨by decide, by decide, by decide, by decide⟩, rfl, rfl⟩ dX9_init_239 ?_
  rw [hZ.advI (n := 222) (m := 223) (by decide) (by decide) (by decide +kernel), hZ.advR (n := 222) (m := 223) (by decide) (by decide) (by decide +kernel)]
  show cr_V Γ 241 [.ref 200] [.ref 222, .ref 200] (cr_nf I cr_I0 0 200 [0, 0, 0, 0, 0, 0, 0, 0, 0, 0, 0, 0, 0, 1, 0, 0, 0, 0, 0, 0, 0, 0, 0, 0, 0, 0, 0, 0, 0, 0, 0, 0, 0, 0, 0, 0, 0, 0, 0, 0, 0, 0, 0, 0, 0, 0, 0, 0, 0, 0, 0, 0, 0, 0, 0, 0, 0, 0, 0, 0, 0, 0, 0, 0, 0] 223) (cr_nf R cr_RF none 200 [some 201, some 202, some 203, some 204, some 205, none, some 206, some 207, some 208, some 209, some 210, some 211, some 212, none, some 213, some 214, some 215, some 216, none, none, some 217, some 218, some 219, some 220, none, none, none, none, none, some 221, none, none, none, none, none, none, none, none, none, none, none, none, none, none, none, none, none, none, none, none, none, none, none, none, none, none, none, none, none, none, none, none, none, none, none] 223) 223
  refine cr_putRF h cr_clsX9 (k := 30) (by decide) (by decide) (Or.inr ⟨_, rfl⟩) rfl rfl rfl rfl wf_X9_77 (by decide) (by decide) rfl dX9_init_241 ?_
  unfold cr_nf
  rw [cr_sB_put (by decide)]
  show cr_V Γ 244 [.ref 200] [] (cr_nf I cr_I0 0 200 [0, 0, 0, 0, 0, 0, 0, 0, 0, 0, 0, 0, 0, 1, 0, 0, 0, 0, 0, 0, 0, 0, 0, 0, 0, 0, 0, 0, 0, 0, 0, 0, 0, 0, 0, 0, 0, 0, 0, 0, 0, 0, 0, 0, 0, 0, 0, 0, 0, 0, 0, 0, 0, 0, 0, 0, 0, 0, 0, 0, 0, 0, 0, 0, 0] 223) (cr_nf R cr_RF none 200 [some 201, some 202, some 203, some 204, some 205, none, some 206, some 207, some 208, some 209, some 210, some 211, some 212, none, some 213, some 214, some 215, some 216, none, none, some 217, some 218, some 219, some 220, none, none, none, none, none, some 221, some 222, none, none, none, none, none, none, none, none, none, none, none, none, none, none, none, none, none, none, none, none, none, none, none, none, none, none, none, none, none, none, none, none, none, none] 223) 223
  refine cr_aload_n h (j := 0) rfl rfl dX9_init_244 ?_
  refine cr_iconst h (v := (5 : Int32)) (by decide) dX9_init_245 ?_
  refine cr_newa h wA_int (N := 5) (by decide) (by decide) rfl (fun k => hZ.aI (by decide) (Nat.le_refl _)) ⟨⟨by decide, by decide, by decide, by decide⟩, rfl, rfl⟩ dX9_init_246 ?_
  rw [hZ.advI (n := 223) (m := 224) (by decide) (by decide) (by decide +kernel), hZ.advR (n := 223) (m := 224) (by decide) (by decide) (by decide +kernel)]
  show cr_V Γ 248 [.ref 200] [.ref 223, .ref 200] (cr_nf I cr_I0 0 200 [0, 0, 0, 0, 0, 0, 0, 0, 0, 0, 0, 0, 0, 1, 0, 0, 0, 0, 0, 0, 0, 0, 0, 0, 0, 0, 0, 0, 0, 0, 0, 0, 0, 0, 0, 0, 0, 0, 0, 0, 0, 0, 0, 0, 0, 0, 0, 0, 0, 0, 0, 0, 0, 0, 0, 0, 0, 0, 0, 0, 0, 0, 0, 0, 0] 224) (cr_nf R cr_RF none 200 [some 201, some 202, some 203, some 204, some 205, none, some 206, some 207, some 208, some 209, some 210, some 211, some 212, none, some 213, some 214, some 215, some 216, none, none, some 217, some 218, some 219, some 220, none, none, none, none, none, some 221, some 222, none, none, none, none, none, none, none, none, none, none, none, none, none, none, none, none, none, none, none, none, none, none, none, none, none, none, none, none, none, none, none, none, none, none] 224) 224
  refine cr_putRF h cr_clsX9 (k := 31) (by decide) (by decide) (Or.inr ⟨_, rfl⟩) rfl rfl rfl rfl wf_X9_80 (by decide) (by decide) rfl dX9_init_248 ?_
  unfold cr_nf
  rw [cr_sB_put (by decide)]
  show cr_V Γ 251 [.ref 200] [] (cr_nf I cr_I0 0 200 [0, 0, 0, 0, 0, 0, 0, 0, 0, 0, 0, 0, 0, 1, 0, 0, 0, 0, 0, 0, 0, 0, 0, 0, 0, 0, 0, 0, 0, 0, 0, 0, 0, 0, 0, 0, 0, 0, 0, 0, 0, 0, 0, 0, 0, 0, 0, 0, 0, 0, 0, 0, 0, 0, 0, 0, 0, 0, 0, 0, 0, 0, 0, 0, 0] 224) (cr_nf R cr_RF none 200 [some 201, some 202, some 203, some 204, some 205, none, some 206, some 207, some 208, some 209, some 210, some 211, some 212, none, some 213, some 214, some 215, some 216, none, none, some 217, some 218, some 219, some 220, none, none, none, none, none, some 221, some 222, some 223, none, none, none, none, none, none, none, none, none, none, none, none, none, none, none, none, none, none, none, none, none, none, none, none, none, none, none, none, none, none, none, none, none] 224) 224
  refine cr_aload_n h (j := 0) rfl rfl dX9_init_251 ?_
  refine cr_iconst h (v := (5 : Int32)) (by decide) dX9_init_252 ?_
  refine cr_newa h wA_int (N := 5) (by decide) (by decide) rfl (fun k => hZ.aI (by decide) (Nat.le_refl _)) ⟨⟨by decide, by decide, by decide, by decide⟩, rfl, rfl⟩ dX9_init_253 ?_
  rw [hZ.advI (n := 224) (m := 225) (by decide) (by decide) (by decide +kernel), hZ.advR (n := 224) (m := 225) (by decide) (by decide) (by decide +kernel)]
  show cr_V Γ 255 [.ref 200] [.ref 224, .ref 200] (cr_nf I cr_I0 0 200 [0, 0, 0, 0, 0, 0, 0, 0, 0, 0, 0, 0, 0, 1, 0, 0, 0, 0, 0, 0, 0, 0, 0, 0, 0, 0, 0, 0, 0, 0, 0, 0, 0, 0, 0, 0, 0, 0, 0, 0, 0, 0, 0, 0, 0, 0, 0, 0, 0, 0, 0, 0, 0, 0, 0, 0, 0, 0, 0, 0, 0, 0, 0, 0, 0] 225) (cr_nf R cr_RF none 200 [some 201, some 202, some 203, some 204, some 205, none, some 206, some 207, some 208, some 209, some 210, some 211, some 212, none, some 213, some 214, some 215, some 216, none, none, some 217, some 218, some 219, some 220, none, none, none, none, none, some 221, some 222, some 223, none, none, none, none, none, none, none, none, none, none, none, none, none, none, none, none, none, none, none, none, none, none, none, none, none, none, none, none, none, none, none, none, none] 225) 225
  refine cr_putRF h cr_clsX9 (k := 32) (by decide) (by decide) (Or.inr ⟨_, rfl⟩) rfl rfl rfl rfl wf_X9_83 (by decide) (by decide) rfl dX9_init_255 ?_
  unfold cr_nf
  rw [cr_sB_put (by decide)]
  show cr_V Γ 258 [.ref 200] [] (cr_nf I cr_I0 0 200 [0, 0, 0, 0, 0, 0, 0, 0, 0, 0, 0, 0, 0, 1, 0, 0, 0, 0, 0, 0, 0, 0, 0, 0, 0, 0, 0, 0, 0, 0, 0, 0, 0, 0, 0, 0, 0, 0, 0, 0, 0, 0, 0, 0, 0, 0, 0, 0, 0, 0, 0, 0, 0, 0, 0, 0, 0, 0, 0, 0, 0, 0, 0, 0, 0] 225) (cr_nf R cr_RF none 200 [some 201, some 202, some 203, some 204, some 205, none, some 206, some 207, some 208, some 209, some 210, some 211, some 212, none, some 213, some 214, some 215, some 216, none, none, some 217, some 218, some 219, some 220, none, none, none, none, none, some 221, some 222, some 223, some 224, none, none, none, none, none, none, none, none, none, none, none, none, none, none, none, none, none, none, none, none, none, none, none, none, none, none, none, none, none, none, none, none] 225) 225
  refine cr_aload_n h (j := 0) rfl rfl dX9_init_258 ?_
  refine cr_iconst h (v := (5 : Int32)) (by decide) dX9_init_259 ?_
  refine cr_newa h wA_int (N := 5) (by decide) (by decide) rfl (fun k => hZ.aI (by decide) (Nat.le_refl _)) ⟨⟨by decide, by decide, by decide, by decide⟩, rfl, rfl⟩ dX9_init_260 ?_
  rw [hZ.advI (n := 225) (m := 226) (by decide) (by decide) (by decide +kernel), hZ.advR (n := 225) (m := 226) (by decide) (by decide) (by decide +kernel)]
  show cr_V Γ 262 [.ref 200] [.ref 225, .ref 200] (cr_nf I cr_I0 0 200 [0, 0, 0, 0, 0, 0, 0, 0, 0, 0, 0, 0, 0, 1, 0, 0, 0, 0, 0, 0, 0, 0, 0, 0, 0, 0, 0, 0, 0, 0, 0, 0, 0, 0, 0, 0, 0, 0, 0, 0, 0, 0, 0, 0, 0, 0, 0, 0, 0, 0, 0, 0, 0, 0, 0, 0, 0, 0, 0, 0, 0, 0, 0, 0, 0] 226) (cr_nf R cr_RF none 200 [some 201, some 202, some 203, some 204, some 205, none, some 206, some 207, some 208, some 209, some 210, some 211, some 212, none, some 213, some 214, some 215, some 216, none, none, some 217, some 218, some 219, some 220, none, none, none, none, none, some 221, some 222, some 223, some 224, none, none, none, none, none, none, none, none, none, none, none, none, none, none, none, none, none, none, none, none, none, none, none, none, none, none, none, none, none, none, none, none] 226) 226
  refine cr_putRF h cr_clsX9 (k := 33) (by decide) (by decide) (Or.inr ⟨_, rfl⟩) rfl rfl rfl rfl wf_X9_86 (by decide) (by decide) rfl dX9_init_262 ?_
  unfold cr_nf
  rw [cr_sB_put (by decide)]
  show cr_V Γ 265 [.ref 200] [] (cr_nf I cr_I0 0 200 [0, 0, 0, 0, 0, 0, 0, 0, 0, 0, 0, 0, 0, 1, 0, 0, 0, 0, 0, 0, 0, 0, 0, 0, 0, 0, 0, 0, 0, 0, 0, 0, 0, 0, 0, 0, 0, 0, 0, 0, 0, 0, 0, 0, 0, 0, 0, 0, 0, 0, 0, 0, 0, 0, 0, 0, 0, 0, 0, 0, 0, 0, 0, 0, 0] 226) (cr_nf R cr_RF none 200 [some 201, some 202, some 203, some 204, some 205, none, some 206, some 207, some 208, some 209, some 210, some 211, some 212, none, some 213, some 214, some 215, some 216, none, none, some 217, some 218, some 219, some 220, none, none, none, none, none, some 221, some 222, some 223, some 224, some 225, none, none, none, none, none, none, none, none, none, none, none, none, none, none, none, none, none, none, none, none, none, none, none, none, none, none, none, none, none, none, none] 226) 226
  refine cr_aload_n h (j := 0) rfl rfl dX9_init_265 ?_
  refine cr_bipush h (v := (36 : Int32)) (by decide) dX9_init_266 ?_
  refine cr_newa h wA_int (N := 36) (by decide) (by decide) rfl (fun k => hZ.aI (by decide) (Nat.le_refl _)) ⟨⟨by decide, by decide, by decide, by decide⟩, rfl, rfl⟩ dX9_init_268 ?_
  rw [hZ.advI (n := 226) (m := 227) (by decide) (by decide) (by decide +kernel), hZ.advR (n := 226) (m := 227) (by decide) (by decide) (by decide +kernel)]
  show cr_V Γ 270 [.ref 200] [.ref 226, .ref 200] (cr_nf I cr_I0 0 200 [0, 0, 0, 0, 0, 0, 0, 0, 0, 0, 0, 0, 0, 1, 0, 0, 0, 0, 0, 0, 0, 0, 0, 0, 0, 0, 0, 0, 0, 0, 0, 0, 0, 0, 0, 0, 0, 0, 0, 0, 0, 0, 0, 0, 0, 0, 0, 0, 0, 0, 0, 0, 0, 0, 0, 0, 0, 0, 0, 0, 0, 0, 0, 0, 0] 227) (cr_nf R cr_RF none 200 [some 201, some 202, some 203, some 204, some 205, none, some 206, some 207, some 208, some 209, some 210, some 211, some 212, none, some 213, some 214, some 215, some 216, none, none, some 217, some 218, some 219, some 220, none, none, none, none, none, some 221, some 222, some 223, some 224, some 225, none, none, none, none, none, none, none, none, none, none, none, none, none, none, none, none, none, none, none, none, none, none, none, none, none, none, none, none, none, none, none] 227) 227
  refine cr_putRF h cr_clsX9 (k := 35) (by decide) (by decide) (Or.inr ⟨_, rfl⟩) rfl rfl rfl rfl wf_X9_89 (by decide) (by decide) rfl dX9_init_270 ?_
  unfold cr_nf
  rw [cr_sB_put (by decide)]
  show cr_V Γ 273 [.ref 200] [] (cr_nf I cr_I0 0 200 [0, 0, 0, 0, 0, 0, 0, 0, 0, 0, 0, 0, 0, 1, 0, 0, 0, 0, 0, 0, 0, 0, 0, 0, 0, 0, 0, 0, 0, 0, 0, 0, 0, 0, 0, 0, 0, 0, 0, 0, 0, 0, 0, 0, 0, 0, 0, 0, 0, 0, 0, 0, 0, 0, 0, 0, 0, 0, 0, 0, 0, 0, 0, 0, 0] 227) (cr_nf R cr_RF none 200 [some 201, some 202, some 203, some 204, some 205, none, some 206, some 207, some 208, some 209, some 210, some 211, some 212, none, some 213, some 214, some 215, some 216, none, none, some 217, some 218, some 219, some 220, none, none, none, none, none, some 221, some 222, some 223, some 224, some 225, none, some 226, none, none, none, none, none, none, none, none, none, none, none, none, none, none, none, none, none, none, none, none, none, none, none, none, none, none, none, none, none] 227) 227
  refine cr_aload_n h (j := 0) rfl rfl dX9_init_273 ?_
  refine cr_bipush h (v := (6 : Int32)) (by decide) dX9_init_274 ?_
  refine cr_newa h wA_int (N := 6) (by decide) (by decide) rfl (fun k => hZ.aI (by decide) (Nat.le_refl _)) ⟨⟨by decide, by decide, by decide, by decide⟩, rfl, rfl⟩ dX9_init_276 ?_
  rw [hZ.advI (n := 227) (m := 228) (by decide) (by decide) (by decide +kernel), hZ.advR (n := 227) (m := 228) (by decide) (by decide) (by decide +kernel)]
  show cr_V Γ 278 [.ref 200] [.ref 227, .ref 200] (cr_nf I cr_I0 0 200 [0, 0, 0, 0, 0, 0, 0, 0, 0, 0, 0, 0, 0, 1, 0, 0, 0, 0, 0, 0, 0, 0, 0, 0, 0, 0, 0, 0, 0, 0, 0, 0, 0, 0, 0, 0, 0, 0, 0, 0, 0, 0, 0, 0, 0, 0, 0, 0, 0, 0, 0, 0, 0, 0, 0, 0, 0, 0, 0, 0, 0, 0, 0, 0, 0] 228) (cr_nf R cr_RF none 200 [some 201, some 202, some 203, some 204, some 205, none, some 206, some 207, some 208, some 209, some 210, some 211, some 212, none, some 213, some 214, some 215, some 216, none, none, some 217, some 218, some 219, some 220, none, none, none, none, none, some 221, some 222, some 223, some 224, some 225, none, some 226, none, none, none, none, none, none, none, none, none, none, none, none, none, none, none, none, none, none, none, none, none, none, none, none, none, none, none, none, none] 228) 228
  refine cr_putRF h cr_clsX9 (k := 36) (by decide) (by decide) (Or.inr ⟨_, rfl⟩) rfl rfl rfl rfl wf_X9_92 (by decide) (by decide) rfl dX9_init_278 ?_
  unfold cr_nf
  rw [cr_sB_put (by decide)]
  show cr_V Γ 281 [.ref 200] [] (cr_nf I cr_I0 0 200 [0, 0, 0, 0, 0, 0, 0, 0, 0, 0, 0, 0, 0, 1, 0, 0, 0, 0, 0, 0, 0, 0, 0, 0, 0, 0, 0, 0, 0, 0, 0, 0, 0, 0, 0, 0, 0, 0, 0, 0, 0, 0, 0, 0, 0, 0, 0, 0, 0, 0, 0, 0, 0, 0, 0, 0, 0, 0, 0, 0, 0, 0, 0, 0, 0] 228) (cr_nf R cr_RF none 200 [some 201, some 202, some 203, some 204, some 205, none, some 206, some 207, some 208, some 209, some 210, some 211, some 212, none, some 213, some 214, some 215, some 216, none, none, some 217, some 218, some 219, some 220, none, none, none, none, none, some 221, some 222, some 223, some 224, some 225, none, some 226, some 227, none, none, none, none, none, none, none, none, none, none, none, none, none, none, none, none, none, none, none, none, none, none, none, none, none, none, none, none] 228) 228
  refine cr_aload_n h (j := 0) rfl rfl dX9_init_281 ?_
  refine cr_bipush h (v := (12 : Int32)) (by decide) dX9_init_282 ?_
  refine cr_newa h wA_int (N := 12) (by decide) (by decide) rfl (fun k => hZ.aI (by decide) (Nat.le_refl _)) ⟨⟨by decide, by decide, by decide, by decide⟩, rfl, rfl⟩ dX9_init_284 ?_
  rw [hZ.advI (n := 228) (m := 229) (by decide) (by decide) (by decide +kernel), hZ.advR (n := 228) (m := 229) (by decide) (by decide) (by decide +kernel)]
  show cr_V Γ 286 [.ref 200] [.ref 228, .ref 200] (cr_nf I cr_I0 0 200 [0, 0, 0, 0, 0, 0, 0, 0, 0, 0, 0, 0, 0, 1, 0, 0, 0, 0, 0, 0, 0, 0, 0, 0, 0, 0, 0, 0, 0, 0, 0, 0, 0, 0, 0, 0, 0, 0, 0, 0, 0, 0, 0, 0, 0, 0, 0, 0, 0, 0, 0, 0, 0, 0, 0, 0, 0, 0, 0, 0, 0, 0, 0, 0, 0] 229) (cr_nf R cr_RF none 200 [some 201, some 202, some 203, some 204, some 205, none, some 206, some 207, some 208, some 209, some 210, some 211, some 212, none, some 213, some 214, some 215, some 216, none, none, some 217, some 218, some 219, some 220, none, none, none, none, none, some 221, some 222, some 223, some 224, some 225, none, some 226, some 227, none, none, none, none, none, none, none, none, none, none, none, none, none, none, none, none, none, none, none, none, none, none, none, none, none, none, none, none] 229) 229
  refine cr_putRF h cr_clsX9 (k := 37) (by decide) (by decide) (Or.inr ⟨_, rfl⟩) rfl rfl rfl rfl wf_X9_95 (by decide) (by decide) rfl dX9_init_286 ?_
  unfold cr_nf
  rw [cr_sB_put (by decide)]
  show cr_V Γ 289 [.ref 200] [] (cr_nf I cr_I0 0 200 [0, 0, 0, 0, 0, 0, 0, 0, 0, 0, 0, 0, 0, 1, 0, 0, 0, 0, 0, 0, 0, 0, 0, 0, 0, 0, 0, 0, 0, 0, 0, 0, 0, 0, 0, 0, 0, 0, 0, 0, 0, 0, 0, 0, 0, 0, 0, 0, 0, 0, 0, 0, 0, 0, 0, 0, 0, 0, 0, 0, 0, 0, 0, 0, 0] 229) (cr_nf R cr_RF none 200 [some 201, some 202, some 203, some 204, some 205, none, some 206, some 207, some 208, some 209, some 210, some 211, some 212, none, some 213, some 214, some 215, some 216, none, none, some 217, some 218, some 219, some 220, none, none, none, none, none, some 221, some 222, some 223, some 224, some 225, none, some 226, some 227, some 228, none, none, none, none, none, none, none, none, none, none, none, none, none, none, none, none, none, none, none, none, none, none, none, none, none, none, none] 229) 229
  refine cr_aload_n h (j := 0) rfl rfl dX9_init_289 ?_
  refine cr_bipush h (v := (12 : Int32)) (by decide) dX9_init_290 ?_
  refine cr_newa h wA_int (N := 12) (by decide) (by decide) rfl (fun k => hZ.aI (by decide) (Nat.le_refl _)) ⟨⟨by decide, by decide, by decide, by decide⟩, rfl, rfl⟩ dX9_init_292 ?_
  rw [hZ.advI (n := 229) (m := 230) (by decide) (by decide) (by decide +kernel), hZ.advR (n := 229) (m := 230) (by decide) (by decide) (by decide +kernel)]
  show cr_V Γ 294 [.ref 200] [.ref 229, .ref 200] (cr_nf I cr_I0 0 200 [0, 0, 0, 0, 0, 0, 0, 0, 0, 0, 0, 0, 0, 1, 0, 0, 0, 0, 0, 0, 0, 0, 0, 0, 0, 0, 0, 0, 0, 0, 0, 0, 0, 0, 0, 0, 0, 0, 0, 0, 0, 0, 0, 0, 0, 0, 0, 0, 0, 0, 0, 0, 0, 0, 0, 0, 0, 0, 0, 0, 0, 0, 0, 0, 0] 230) (cr_nf R cr_RF none 200 [some 201, some 202, some 203, some 204, some 205, none, some 206, some 207, some 208, some 209, some 210, some 211, some 212, none, some 213, some 214, some 215, some 216, none, none, some 217, some 218, some 219, some 220, none, none, none, none, none, some 221, some 222, some 223, some 224, some 225, none, some 226, some 227, some 228, none, none, none, none, none, none, none, none, none, none, none, none, none, none, none, none, none, none, none, none, none, none, none, none, none, none, none] 230) 230
  refine cr_putRF h cr_clsX9 (k := 38) (by decide) (by decide) (Or.inr ⟨_, rfl⟩) rfl rfl rfl rfl wf_X9_98 (by decide) (by decide) rfl dX9_init_294 ?_
  unfold cr_nf
  rw [cr_sB_put (by decide)]
  show cr_V Γ 297 [.ref 200] [] (cr_nf I cr_I0 0 200 [0, 0, 0, 0, 0, 0, 0, 0, 0, 0, 0, 0, 0, 1, 0, 0, 0, 0, 0, 0, 0, 0, 0, 0, 0, 0, 0, 0, 0, 0, 0, 0, 0, 0, 0, 0, 0, 0, 0, 0, 0, 0, 0, 0, 0, 0, 0, 0, 0, 0, 0, 0, 0, 0, 0, 0, 0, 0, 0, 0, 0, 0, 0, 0, 0] 230) (cr_nf R cr_RF none 200 [some 201, some 202, some 203, some 204, some 205, none, some 206, some 207, some 208, some 209, some 210, some 211, some 212, none, some 213, some 214, some 215, some 216, none, none, some 217, some 218, some 219, some 220, none, none, none, none, none, some 221, some 222, some 223, some 224, some 225, none, some 226, some 227, some 228, some 229, none, none, none, none, none, none, none, none, none, none, none, none, none, none, none, none, none, none, none, none, none, none, none, none, none, none] 230) 230
  refine cr_aload_n h (j := 0) rfl rfl dX9_init_297 ?_
  refine cr_bipush h (v := (12 : Int32)) (by decide) dX9_init_298 ?_
  refine cr_newa h wA_int (N := 12) (by decide) (by decide) rfl (fun k => hZ.aI (by decide) (Nat.le_refl _)) ⟨⟨by decide, by decide, by decide, by decide⟩, rfl, rfl⟩ dX9_init_300 ?_
  rw [hZ.advI (n := 230) (m := 231) (by decide) (by decide) (by decide +kernel), hZ.advR (n := 230) (m := 231) (by decide) (by decide) (by decide +kernel)]
  show cr_V Γ 302 [.ref 200] [.ref 230, .ref 200] (cr_nf I cr_I0 0 200 [0, 0, 0, 0, 0, 0, 0, 0, 0, 0, 0, 0, 0, 1, 0, 0, 0, 0, 0, 0, 0, 0, 0, 0, 0, 0, 0, 0, 0, 0, 0, 0, 0, 0, 0, 0, 0, 0, 0, 0, 0, 0, 0, 0, 0, 0, 0, 0, 0, 0, 0, 0, 0, 0, 0, 0, 0, 0, 0, 0, 0, 0, 0, 0, 0] 231) (cr_nf R cr_RF none 200 [some 201, some 202, some 203, some 204, some 205, none, some 206, some 207, some 208, some 209, some 210, some 211, some 212, none, some 213, some 214, some 215, some 216, none, none, some 217, some 218, some 219, some 220, none, none, none, none, none, some 221, some 222, some 223, some 224, some 225, none, some 226, some 227, some 228, some 229, none, none, none, none, none, none, none, none, none, none, none, none, none, none, none, none, none, none, none, none, none, none, none, none, none, none] 231) 231
  refine cr_putRF h cr_clsX9 (k := 40) (by decide) (by decide) (Or.inr ⟨_, rfl⟩) rfl rfl rfl rfl wf_X9_101 (by decide) (by decide) rfl dX9_init_302 ?_
  unfold cr_nf
  rw [cr_sB_put (by decide)]
  show cr_V Γ 305 [.ref 200] [] (cr_nf I cr_I0 0 200 [0, 0, 0, 0, 0, 0, 0, 0, 0, 0, 0, 0, 0, 1, 0, 0, 0, 0, 0, 0, 0, 0, 0, 0, 0, 0, 0, 0, 0, 0, 0, 0, 0, 0, 0, 0, 0, 0, 0, 0, 0, 0, 0, 0, 0, 0, 0, 0, 0, 0, 0, 0, 0, 0, 0, 0, 0, 0, 0, 0, 0, 0, 0, 0, 0] 231) (cr_nf R cr_RF none 200 [some 201, some 202, some 203, some 204, some 205, none, some 206, some 207, some 208, some 209, some 210, some 211, some 212, none, some 213, some 214, some 215, some 216, none, none, some 217, some 218, some 219, some 220, none, none, none, none, none, some 221, some 222, some 223, some 224, some 225, none, some 226, some 227, some 228, some 229, none, some 230, none, none, none, none, none, none, none, none, none, none, none, none, none, none, none, none, none, none, none, none, none, none, none, none] 231) 231
  refine cr_aload_n h (j := 0) rfl rfl dX9_init_305 ?_
  refine cr_bipush h (v := (12 : Int32)) (by decide) dX9_init_306 ?_
  refine cr_newa h wA_int (N := 12) (by decide) (by decide) rfl (fun k => hZ.aI (by decide) (Nat.le_refl _)) ⟨⟨by decide, by decide, by decide, by decide⟩, rfl, rfl⟩ dX9_init_308 ?_
  rw [hZ.advI (n := 231) (m := 232) (by decide) (by decide) (by decide +kernel), hZ.advR (n := 231) (m := 232) (by decide) (by decide) (by decide +kernel)]
  show cr_V Γ 310 [.ref 200] [.ref 231, .ref 200] (cr_nf I cr_I0 0 200 [0, 0, 0, 0, 0, 0, 0, 0, 0, 0, 0, 0, 0, 1, 0, 0, 0, 0, 0, 0, 0, 0, 0, 0, 0, 0, 0, 0, 0, 0, 0, 0, 0, 0, 0, 0, 0, 0, 0, 0, 0, 0, 0, 0, 0, 0, 0, 0, 0, 0, 0, 0, 0, 0, 0, 0, 0, 0, 0, 0, 0, 0, 0, 0, 0] 232) (cr_nf R cr_RF none 200 [some 201, some 202, some 203, some 204, some 205, none, some 206, some 207, some 208, some 209, some 210, some 211, some 212, none, some 213, some 214, some 215, some 216, none, none, some 217, some 218, some 219, some 220, none, none, none, none, none, some 221, some 222, some 223, some 224, some 225, none, some 226, some 227, some 228, some 229, none, some 230, none, none, none, none, none, none, none, none, none, none, none, none, none, none, none, none, none, none, none, none, none, none, none, none] 232) 232
  refine cr_putRF h cr_clsX9 (k := 41) (by decide) (by decide) (Or.inr ⟨_, rfl⟩) rfl rfl rfl rfl wf_X9_104 (by decide) (by decide) rfl dX9_init_310 ?_
  unfold cr_nf
  rw [cr_sB_put (by decide)]
  show cr_V Γ 313 [.ref 200] [] (cr_nf I cr_I0 0 200 [0, 0, 0, 0, 0, 0, 0, 0, 0, 0, 0, 0, 0, 1, 0, 0, 0, 0, 0, 0, 0, 0, 0, 0, 0, 0, 0, 0, 0, 0, 0, 0, 0, 0, 0, 0, 0, 0, 0, 0, 0, 0, 0, 0, 0, 0, 0, 0, 0, 0, 0, 0, 0, 0, 0, 0, 0, 0, 0, 0, 0, 0, 0, 0, 0] 232) (cr_nf R cr_RF none 200 [some 201, some 202, some 203, some 204, some 205, none, some 206, some 207, some 208, some 209, some 210, some 211, some 212, none, some 213, some 214, some 215, some 216, none, none, some 217, some 218, some 219, some 220, none, none, none, none, none, some 221, some 222, some 223, some 224, some 225, none, some 226, some 227, some 228, some 229, none, some 230, some 231, none, none, none, none, none, none, none, none, none, none, none, none, none, none, none, none, none, none, none, none, none, none, none] 232) 232
  refine cr_aload_n h (j := 0) rfl rfl dX9_init_313 ?_
  refine cr_bipush h (v := (12 : Int32)) (by decide) dX9_init_314 ?_
  refine cr_newa h wA_int (N := 12) (by decide) (by decide) rfl (fun k => hZ.aI (by decide) (Nat.le_refl _)) ⟨⟨by decide, by decide, by decide, by decide⟩, rfl, rfl⟩ dX9_init_316 ?_
  rw [hZ.advI (n := 232) (m := 233) (by decide) (by decide) (by decide +kernel), hZ.advR (n := 232) (m := 233) (by decide) (by decide) (by decide +kernel)]
  show cr_V Γ 318 [.ref 200] [.ref 232, .ref 200] (cr_nf I cr_I0 0 200 [0, 0, 0, 0, 0, 0, 0, 0, 0, 0, 0, 0, 0, 1, 0, 0, 0, 0, 0, 0, 0, 0, 0, 0, 0, 0, 0, 0, 0, 0, 0, 0, 0, 0, 0, 0, 0, 0, 0, 0, 0, 0, 0, 0, 0, 0, 0, 0, 0, 0, 0, 0, 0, 0, 0, 0, 0, 0, 0, 0, 0, 0, 0, 0, 0] 233) (cr_nf R cr_RF none 200 [some 201, some 202, some 203, some 204, some 205, none, some 206, some 207, some 208, some 209, some 210, some 211, some 212, none, some 213, some 214, some 215, some 216, none, none, some 217, some 218, some 219, some 220, none, none, none, none, none, some 221, some 222, some 223, some 224, some 225, none, some 226, some 227, some 228, some 229, none, some 230, some 231, none, none, none, none, none, none, none, none, none, none, none, none, none, none, none, none, none, none, none, none, none, none, none] 233) 233
  refine cr_putRF h cr_clsX9 (k := 42) (by decide) (by decide) (Or.inr ⟨_, rfl⟩) rfl rfl rfl rfl wf_X9_107 (by decide) (by decide) rfl dX9_init_318 ?_
  unfold cr_nf
  rw [cr_sB_put (by decide)]
  show cr_V Γ 321 [.ref 200] [] (cr_nf I cr_I0 0 200 [0, 0, 0, 0, 0, 0, 0, 0, 0, 0, 0, 0, 0, 1, 0, 0, 0, 0, 0, 0, 0, 0, 0, 0, 0, 0, 0, 0, 0, 0, 0, 0, 0, 0, 0, 0, 0, 0, 0, 0, 0, 0, 0, 0, 0, 0, 0, 0, 0, 0, 0, 0, 0, 0, 0, 0, 0, 0, 0, 0, 0, 0, 0, 0, 0] 233) (cr_nf R cr_RF none 200 [some 201, some 202, some 203, some 204, some 205, none, some 206, some 207, some 208, some 209, some 210, some 211, some 212, none, some 213, some 214, some 215, some 216, none, none, some 217, some 218, some 219, some 220, none, none, none, none, none, some 221, some 222, some 223, some 224, some 225, none, some 226, some 227, some 228, some 229, none, some 230, some 231, some 232, none, none, none, none, none, none, none, none, none, none, none, none, none, none, none, none, none, none, none, none, none, none] 233) 233
  refine cr_aload_n h (j := 0) rfl rfl dX9_init_321 ?_
  refine cr_sipush h (v := (192 : Int32)) (by decide) dX9_init_322 ?_
  refine cr_newa h wA_int (N := 192) (by decide) (by decide) rfl (fun k => hZ.aI (by decide) (Nat.le_refl _)) ⟨⟨by decide, by decide, by decide, by decide⟩, rfl, rfl⟩ dX9_init_325 ?_
  rw [hZ.advI (n := 233) (m := 234) (by decide) (by decide) (by decide +kernel), hZ.advR (n := 233) (m := 234) (by decide) (by decide) (by decide +kernel)]
  show cr_V Γ 327 [.ref 200] [.ref 233, .ref 200] (cr_nf I cr_I0 0 200 [0, 0, 0, 0, 0, 0, 0, 0, 0, 0, 0, 0, 0, 1, 0, 0, 0, 0, 0, 0, 0, 0, 0, 0, 0, 0, 0, 0, 0, 0, 0, 0, 0, 0, 0, 0, 0, 0, 0, 0, 0, 0, 0, 0, 0, 0, 0, 0, 0, 0, 0, 0, 0, 0, 0, 0, 0, 0, 0, 0, 0, 0, 0, 0, 0] 234) (cr_nf R cr_RF none 200 [some 201, some 202, some 203, some 204, some 205, none, some 206, some 207, some 208, some 209, some 210, some 211, some 212, none, some 213, some 214, some 215, some 216, none, none, some 217, some 218, some 219, some 220, none, none, none, none, none, some 221, some 222, some 223, some 224, some 225, none, some 226, some 227, some 228, some 229, none, some 230, some 231, some 232, none, none, none, none, none, none, none, none, none, none, none, none, none, none, none, none, none, none, none, none, none, none] 234) 234
  refine cr_putRF h cr_clsX9 (k := 48) (by decide) (by decide) (Or.inr ⟨_, rfl⟩) rfl rfl rfl rfl wf_X9_110 (by decide) (by decide) rfl dX9_init_327 ?_
  unfold cr_nf
  rw [cr_sB_put (by decide)]
  show cr_V Γ 330 [.ref 200] [] (cr_nf I cr_I0 0 200 [0, 0, 0, 0, 0, 0, 0, 0, 0, 0, 0, 0, 0, 1, 0, 0, 0, 0, 0, 0, 0, 0, 0, 0, 0, 0, 0, 0, 0, 0, 0, 0, 0, 0, 0, 0, 0, 0, 0, 0, 0, 0, 0, 0, 0, 0, 0, 0, 0, 0, 0, 0, 0, 0, 0, 0, 0, 0, 0, 0, 0, 0, 0, 0, 0] 234) (cr_nf R cr_RF none 200 [some 201, some 202, some 203, some 204, some 205, none, some 206, some 207, some 208, some 209, some 210, some 211, some 212, none, some 213, some 214, some 215, some 216, none, none, some 217, some 218, some 219, some 220, none, none, none, none, none, some 221, some 222, some 223, some 224, some 225, none, some 226, some 227, some 228, some 229, none, some 230, some 231, some 232, none, none, none, none, none, some 233, none, none, none, none, none, none, none, none, none, none, none, none, none, none, none, none] 234) 234
  refine cr_aload_n h (j := 0) rfl rfl dX9_init_330 ?_
  refine cr_sipush h (v := (192 : Int32)) (by decide) dX9_init_331 ?_
  refine cr_newa h wA_int (N := 192) (by decide) (by decide) rfl (fun k => hZ.aI (by decide) (Nat.le_refl _)) ⟨⟨by decide, by decide, by decide, by decide⟩, rfl, rfl⟩ dX9_init_334 ?_
  rw [hZ.advI (n := 234) (m := 235) (by decide) (by decide) (by decide +kernel), hZ.advR (n := 234) (m := 235) (by decide) (by decide) (by decide +kernel)]
  show cr_V Γ 336 [.ref 200] [.ref 234, .ref 200] (cr_nf I cr_I0 0 200 [0, 0, 0, 0, 0, 0, 0, 0, 0, 0, 0, 0, 0, 1, 0, 0, 0, 0, 0, 0, 0, 0, 0, 0, 0, 0, 0, 0, 0, 0, 0, 0, 0, 0, 0, 0, 0, 0, 0, 0, 0, 0, 0, 0, 0, 0, 0, 0, 0, 0, 0, 0, 0, 0, 0, 0, 0, 0, 0, 0, 0, 0, 0, 0, 0] 235) (cr_nf R cr_RF none 200 [some 201, some 202, some 203, some 204, some 205, none, some 206, some 207, some 208, some 209, some 210, some 211, some 212, none, some 213, some 214, some 215, some 216, none, none, some 217, some 218, some 219, some 220, none, none, none, none, none, some 221, some 222, some 223, some 224, some 225, none, some 226, some 227, some 228, some 229, none, some 230, some 231, some 232, none, none, none, none, none, some 233, none, none, none, none, none, none, none, none, none, none, none, none, none, none, none, none] 235) 235
  refine cr_putRF h cr_clsX9 (k := 49) (by decide) (by decide) (Or.inr ⟨_, rfl⟩) rfl rfl rfl rfl wf_X9_113 (by decide) (by decide) rfl dX9_init_336 ?_
  unfold cr_nf
  rw [cr_sB_put (by decide)]
  show cr_V Γ 339 [.ref 200] [] (cr_nf I cr_I0 0 200 [0, 0, 0, 0, 0, 0, 0, 0, 0, 0, 0, 0, 0, 1, 0, 0, 0, 0, 0, 0, 0, 0, 0, 0, 0, 0, 0, 0, 0, 0, 0, 0, 0, 0, 0, 0, 0, 0, 0, 0, 0, 0, 0, 0, 0, 0, 0, 0, 0, 0, 0, 0, 0, 0, 0, 0, 0, 0, 0, 0, 0, 0, 0, 0, 0] 235) (cr_nf R cr_RF none 200 [some 201, some 202, some 203, some 204, some 205, none, some 206, some 207, some 208, some 209, some 210, some 211, some 212, none, some 213, some 214, some 215, some 216, none, none, some 217, some 218, some 219, some 220, none, none, none, none, none, some 221, some 222, some 223, some 224, some 225, none, some 226, some 227, some 228, some 229, none, some 230, some 231, some 232, none, none, none, none, none, some 233, some 234, none, none, none, none, none, none, none, none, none, none, none, none, none, none, none] 235) 235
  refine cr_aload_n h (j := 0) rfl rfl dX9_init_339 ?_
  refine cr_sipush h (v := (192 : Int32)) (by decide) dX9_init_340 ?_
  refine cr_newa h wA_int (N := 192) (by decide) (by decide) rfl (fun k => hZ.aI (by decide) (Nat.le_refl _)) ⟨⟨by decide, by decide, by decide, by decide⟩, rfl, rfl⟩ dX9_init_343 ?_
  rw [hZ.advI (n := 235) (m := 236) (by decide) (by decide) (by decide +kernel), hZ.advR (n := 235) (m := 236) (by decide) (by decide) (by decide +kernel)]
  show cr_V Γ 345 [.ref 200] [.ref 235, .ref 200] (cr_nf I cr_I0 0 200 [0, 0, 0, 0, 0, 0, 0, 0, 0, 0, 0, 0, 0, 1, 0, 0, 0, 0, 0, 0, 0, 0, 0, 0, 0, 0, 0, 0, 0, 0, 0, 0, 0, 0, 0, 0, 0, 0, 0, 0, 0, 0, 0, 0, 0, 0, 0, 0, 0, 0, 0, 0, 0, 0, 0, 0, 0, 0, 0, 0, 0, 0, 0, 0, 0] 236) (cr_nf R cr_RF none 200 [some 201, some 202, some 203, some 204, some 205, none, some 206, some 207, some 208, some 209, some 210, some 211, some 212, none, some 213, some 214, some 215, some 216, none, none, some 217, some 218, some 219, some 220, none, none, none, none, none, some 221, some 222, some 223, some 224, some 225, none, some 226, some 227, some 228, some 229, none, some 230, some 231, some 232, none, none, none, none, none, some 233, some 234, none, none, none, none, none, none, none, none, none, none, none, none, none, none, none] 236) 236
  refine cr_putRF h cr_clsX9 (k := 50) (by decide) (by decide) (Or.inr ⟨_, rfl⟩) rfl rfl rfl rfl wf_X9_116 (by decide) (by decide) rfl dX9_init_345 ?_
  unfold cr_nf
  rw [cr_sB_put (by decide)]
  show cr_V Γ 348 [.ref 200] [] (cr_nf I cr_I0 0 200 [0, 0, 0, 0, 0, 0, 0, 0, 0, 0, 0, 0, 0, 1, 0, 0, 0, 0, 0, 0, 0, 0, 0, 0, 0, 0, 0, 0, 0, 0, 0, 0, 0, 0, 0, 0, 0, 0, 0, 0, 0, 0, 0, 0, 0, 0, 0, 0, 0, 0, 0, 0, 0, 0, 0, 0, 0, 0, 0, 0, 0, 0, 0, 0, 0] 236) (cr_nf R cr_RF none 200 [some 201, some 202, some 203, some 204, some 205, none, some 206, some 207, some 208, some 209, some 210, some 211, some 212, none, some 213, some 214, some 215, some 216, none, none, some 217, some 218, some 219, some 220, none, none, none, none, none, some 221, some 222, some 223, some 224, some 225, none, some 226, some 227, some 228, some 229, none, some 230, some 231, some 232, none, none, none, none, none, some 233, some 234, some 235, none, none, none, none, none, none, none, none, none, none, none, none, none, none] 236) 236
  refine cr_aload_n h (j := 0) rfl rfl dX9_init_348 ?_
  refine cr_sipush h (v := (192 : Int32)) (by decide) dX9_init_349 ?_
  refine cr_newa h wA_int (N := 192) (by decide) (by decide) rfl (fun k => hZ.aI (by decide) (Nat.le_refl _)) ⟨⟨by decide, by decide, by decide, by decide⟩, rfl, rfl⟩ dX9_init_352 ?_
  rw [hZ.advI (n := 236) (m := 237) (by decide) (by decide) (by decide +kernel), hZ.advR (n := 236) (m := 237) (by decide) (by decide) (by decide +kernel)]
  show cr_V Γ 354 [.ref 200] [.ref 236, .ref 200] (cr_nf I cr_I0 0 200 [0, 0, 0, 0, 0, 0, 0, 0, 0, 0, 0, 0, 0, 1, 0, 0, 0, 0, 0, 0, 0, 0, 0, 0, 0, 0, 0, 0, 0, 0, 0, 0, 0, 0, 0, 0, 0, 0, 0, 0, 0, 0, 0, 0, 0, 0, 0, 0, 0, 0, 0, 0, 0, 0, 0, 0, 0, 0, 0, 0, 0, 0, 0, 0, 0] 237) (cr_nf R cr_RF none 200 [some 201, some 202, some 203, some 204, some 205, none, some 206, some 207, some 208, some 209, some 210, some 211, some 212, none, some 213, some 214, some 215, some 216, none, none, some 217, some 218, some 219, some 220, none, none, none, none, none, some 221, some 222, some 223, some 224, some 225, none, some 226, some 227, some 228, some 229, none, some 230, some 231, some 232, none, none, none, none, none, some 233, some 234, some 235, none, none, none, none, none, none, none, none, none, none, none, none, none, none] 237) 237
  refine cr_putRF h cr_clsX9 (k := 51) (by decide) (by decide) (Or.inr ⟨_, rfl⟩) rfl rfl rfl rfl wf_X9_119 (by decide) (by decide) rfl dX9_init_354 ?_
  unfold cr_nf
  rw [cr_sB_put (by decide)]
  show cr_V Γ 357 [.ref 200] [] (cr_nf I cr_I0 0 200 [0, 0, 0, 0, 0, 0, 0, 0, 0, 0, 0, 0, 0, 1, 0, 0, 0, 0, 0, 0, 0, 0, 0, 0, 0, 0, 0, 0, 0, 0, 0, 0, 0, 0, 0, 0, 0, 0, 0, 0, 0, 0, 0, 0, 0, 0, 0, 0, 0, 0, 0, 0, 0, 0, 0, 0, 0, 0, 0, 0, 0, 0, 0, 0, 0] 237) (cr_nf R cr_RF none 200 [some 201, some 202, some 203, some 204, some 205, none, some 206, some 207, some 208, some 209, some 210, some 211, some 212, none, some 213, some 214, some 215, some 216, none, none, some 217, some 218, some 219, some 220, none, none, none, none, none, some 221, some 222, some 223, some 224, some 225, none, some 226, some 227, some 228, some 229, none, some 230, some 231, some 232, none, none, none, none, none, some 233, some 234, some 235, some 236, none, none, none, none, none, none, none, none, none, none, none, none, none] 237) 237
  refine cr_aload_n h (j := 0) rfl rfl dX9_init_357 ?_
  refine cr_sipush h (v := (192 : Int32)) (by decide) dX9_init_358 ?_
  refine cr_newa h wA_int (N := 192) (by decide) (by decide) rfl (fun k => hZ.aI (by decide) (Nat.le_refl _)) ⟨⟨by decide, by decide, by decide, by decide⟩, rfl, rfl⟩ dX9_init_361 ?_
  rw [hZ.advI (n := 237) (m := 238) (by decide) (by decide) (by decide +kernel), hZ.advR (n := 237) (m := 238) (by decide) (by decide) (by decide +kernel)]
  show cr_V Γ 363 [.ref 200] [.ref 237, .ref 200] (cr_nf I cr_I0 0 200 [0, 0, 0, 0, 0, 0, 0, 0, 0, 0, 0, 0, 0, 1, 0, 0, 0, 0, 0, 0, 0, 0, 0, 0, 0, 0, 0, 0, 0, 0, 0, 0, 0, 0, 0, 0, 0, 0, 0, 0, 0, 0, 0, 0, 0, 0, 0, 0, 0, 0, 0, 0, 0, 0, 0, 0, 0, 0, 0, 0, 0, 0, 0, 0, 0] 238) (cr_nf R cr_RF none 200 [some 201, some 202, some 203, some 204, some 205, none, some 206, some 207, some 208, some 209, some 210, some 211, some 212, none, some 213, some 214, some 215, some 216, none, none, some 217, some 218, some 219, some 220, none, none, none, none, none, some 221, some 222, some 223, some 224, some 225, none, some 226, some 227, some 228, some 229, none, some 230, some 231, some 232, none, none, none, none, none, some 233, some 234, some 235, some 236, none, none, none, none, none, none, none, none, none, none, none, none, none] 238) 238
  refine cr_putRF h cr_clsX9 (k := 52) (by decide) (by decide) (Or.inr ⟨_, rfl⟩) rfl rfl rfl rfl wf_X9_122 (by decide) (by decide) rfl dX9_init_363 ?_
  unfold cr_nf
  rw [cr_sB_put (by decide)]
  show cr_V Γ 366 [.ref 200] [] (cr_nf I cr_I0 0 200 [0, 0, 0, 0, 0, 0, 0, 0, 0, 0, 0, 0, 0, 1, 0, 0, 0, 0, 0, 0, 0, 0, 0, 0, 0, 0, 0, 0, 0, 0, 0, 0, 0, 0, 0, 0, 0, 0, 0, 0, 0, 0, 0, 0, 0, 0, 0, 0, 0, 0, 0, 0, 0, 0, 0, 0, 0, 0, 0, 0, 0, 0, 0, 0, 0] 238) (cr_nf R cr_RF none 200 [some 201, some 202, some 203, some 204, some 205, none, some 206, some 207, some 208, some 209, some 210, some 211, some 212, none, some 213, some 214, some 215, some 216, none, none, some 217, some 218, some 219, some 220, none, none, none, none, none, some 221, some 222, some 223, some 224, some 225, none, some 226, some 227, some 228, some 229, none, some 230, some 231, some 232, none, none, none, none, none, some 233, some 234, some 235, some 236, some 237, none, none, none, none, none, none, none, none, none, none, none, none] 238) 238
  refine cr_aload_n h (j := 0) rfl rfl dX9_init_366 ?_
  refine cr_sipush h (v := (192 : Int32)) (by decide) dX9_init_367 ?_
  refine cr_newa h wA_int (N := 192) (by decide) (by decide) rfl (fun k => hZ.aI (by decide) (Nat.le_refl _)) ⟨⟨by decide, by decide, by decide, by decide⟩, rfl, rfl⟩ dX9_init_370 ?_
  rw [hZ.advI (n := 238) (m := 239) (by decide) (by decide) (by decide +kernel), hZ.advR (n := 238) (m := 239) (by decide) (by decide) (by decide +kernel)]
  show cr_V Γ 372 [.ref 200] [.ref 238, .ref 200] (cr_nf I cr_I0 0 200 [0, 0, 0, 0, 0, 0, 0, 0, 0, 0, 0, 0, 0, 1, 0, 0, 0, 0, 0, 0, 0, 0, 0, 0, 0, 0, 0, 0, 0, 0, 0, 0, 0, 0, 0, 0, 0, 0, 0, 0, 0, 0, 0, 0, 0, 0, 0, 0, 0, 0, 0, 0, 0, 0, 0, 0, 0, 0, 0, 0, 0, 0, 0, 0, 0] 239) (cr_nf R cr_RF none 200 [some 201, some 202, some 203, some 204, some 205, none, some 206, some 207, some 208, some 209, some 210, some 211, some 212, none, some 213, some 214, some 215, some 216, none, none, some 217, some 218, some 219, some 220, none, none, none, none, none, some 221, some 222, some 223, some 224, some 225, none, some 226, some 227, some 228, some 229, none, some 230, some 231, some 232, none, none, none, none, none, some 233, some 234, some 235, some 236, some 237, none, none, none, none, none, none, none, none, none, none, none, none] 239) 239
  refine cr_putRF h cr_clsX9 (k := 53) (by decide) (by decide) (Or.inr ⟨_, rfl⟩) rfl rfl rfl rfl wf_X9_125 (by decide) (by decide) rfl dX9_init_372 ?_
  unfold cr_nf
  rw [cr_sB_put (by decide)]
  show cr_V Γ 375 [.ref 200] [] (cr_nf I cr_I0 0 200 [0, 0, 0, 0, 0, 0, 0, 0, 0, 0, 0, 0, 0, 1, 0, 0, 0, 0, 0, 0, 0, 0, 0, 0, 0, 0, 0, 0, 0, 0, 0, 0, 0, 0, 0, 0, 0, 0, 0, 0, 0, 0, 0, 0, 0, 0, 0, 0, 0, 0, 0, 0, 0, 0, 0, 0, 0, 0, 0, 0, 0, 0, 0, 0, 0] 239) (cr_nf R cr_RF none 200 [some 201, some 202, some 203, some 204, some 205, none, some 206, some 207, some 208, some 209, some 210, some 211, some 212, none, some 213, some 214, some 215, some 216, none, none, some 217, some 218, some 219, some 220, none, none, none, none, none, some 221, some 222, some 223, some 224, some 225, none, some 226, some 227, some 228, some 229, none, some 230, some 231, some 232, none, none, none, none, none, some 233, some 234, some 235, some 236, some 237, some 238, none, none, none, none, none, none, none, none, none, none, none] 239) 239
  refine cr_aload_n h (j := 0) rfl rfl dX9_init_375 ?_
  refine cr_bipush h (v := (32 : Int32)) (by decide) dX9_init_376 ?_
  refine cr_newa h wA_int (N := 32) (by decide) (by decide) rfl (fun k => hZ.aI (by decide) (Nat.le_refl _)) ⟨⟨by decide, by decide, by decide, by decide⟩, rfl, rfl⟩ dX9_init_378 ?_
  rw [hZ.advI (n := 239) (m := 240) (by decide) (by decide) (by decide +kernel), hZ.advR (n := 239) (m := 240) (by decide) (by decide) (by decide +kernel)]
  show cr_V Γ 380 [.ref 200] [.ref 239, .ref 200] (cr_nf I cr_I0 0 200 [0, 0, 0, 0, 0, 0, 0, 0, 0, 0, 0, 0, 0, 1, 0, 0, 0, 0, 0, 0, 0, 0, 0, 0, 0, 0, 0, 0, 0, 0, 0, 0, 0, 0, 0, 0, 0, 0, 0, 0, 0, 0, 0, 0, 0, 0, 0, 0, 0, 0, 0, 0, 0, 0, 0, 0, 0, 0, 0, 0, 0, 0, 0, 0, 0] 240) (cr_nf R cr_RF none 200 [some 201, some 202, some 203, some 204, some 205, none, some 206, some 207, some 208, some 209, some 210, some 211, some 212, none, some 213, some 214, some 215, some 216, none, none, some 217, some 218, some 219, some 220, none, none, none, none, none, some 221, some 222, some 223, some 224, some 225, none, some 226, some 227, some 228, some 229, none, some 230, some 231, some 232, none, none, none, none, none, some 233, some 234, some 235, some 236, some 237, some 238, none, none, none, none, none, none, none, none, none, none, none] 240) 240
  refine cr_putRF h cr_clsX9 (k := 54) (by decide) (by decide) (Or.inr ⟨_, rfl⟩) rfl rfl rfl rfl wf_X9_128 (by decide) (by decide) rfl dX9_init_380 ?_
  unfold cr_nf
  rw [cr_sB_put (by decide)]
  show cr_V Γ 383 [.ref 200] [] (cr_nf I cr_I0 0 200 [0, 0, 0, 0, 0, 0, 0, 0, 0, 0, 0, 0, 0, 1, 0, 0, 0, 0, 0, 0, 0, 0, 0, 0, 0, 0, 0, 0, 0, 0, 0, 0, 0, 0, 0, 0, 0, 0, 0, 0, 0, 0, 0, 0, 0, 0, 0, 0, 0, 0, 0, 0, 0, 0, 0, 0, 0, 0, 0, 0, 0, 0, 0, 0, 0] 240) (cr_nf R cr_RF none 200 [some 201, some 202, some 203, some 204, some 205, none, some 206, some 207, some 208, some 209, some 210, some 211, some 212, none, some 213, some 214, some 215, some 216, none, none, some 217, some 218, some 219, some 220, none, none, none, none, none, some 221, some 222, some 223, some 224, some 225, none, some 226, some 227, some 228, some 229, none, some 230, some 231, some 232, none, none, none, none, none, some 233, some 234, some 235, some 236, some 237, some 238, some 239, none, none, none, none, none, none, none, none, none, none] 240) 240
  refine cr_aload_n h (j := 0) rfl rfl dX9_init_383 ?_
  refine cr_bipush h (v := (6 : Int32)) (by decide) dX9_init_384 ?_
  refine cr_newa h wA_int (N := 6) (by decide) (by decide) rfl (fun k => hZ.aI (by decide) (Nat.le_refl _)) ⟨⟨by decide, by decide, by decide, by decide⟩, rfl, rfl⟩ dX9_init_386 ?_
  rw [hZ.advI (n := 240) (m := 241) (by decide) (by decide) (by decide +kernel), hZ.advR (n := 240) (m := 241) (by decide) (by decide) (by decide +kernel)]
  show cr_V Γ 388 [.ref 200] [.ref 240, .ref 200] (cr_nf I cr_I0 0 200 [0, 0, 0, 0, 0, 0, 0, 0, 0, 0, 0, 0, 0, 1, 0, 0, 0, 0, 0, 0, 0, 0, 0, 0, 0, 0, 0, 0, 0, 0, 0, 0, 0, 0, 0, 0, 0, 0, 0, 0, 0, 0, 0, 0, 0, 0, 0, 0, 0, 0, 0, 0, 0, 0, 0, 0, 0, 0, 0, 0, 0, 0, 0, 0, 0] 241) (cr_nf R cr_RF none 200 [some 201, some 202, some 203, some 204, some 205, none, some 206, some 207, some 208, some 209, some 210, some 211, some 212, none, some 213, some 214, some 215, some 216, none, none, some 217, some 218, some 219, some 220, none, none, none, none, none, some 221, some 222, some 223, some 224, some 225, none, some 226, some 227, some 228, some 229, none, some 230, some 231, some 232, none, none, none, none, none, some 233, some 234, some 235, some 236, some 237, some 238, some 239, none, none, none, none, none, none, none, none, none, none] 241) 241
  refine cr_putRF h cr_clsX9 (k := 57) (by decide) (by decide) (Or.inr ⟨_, rfl⟩) rfl rfl rfl rfl wf_X9_131 (by decide) (by decide) rfl dX9_init_388 ?_
  unfold cr_nf
  rw [cr_sB_put (by decide)]
  show cr_V Γ 391 [.ref 200] [] (cr_nf I cr_I0 0 200 [0, 0, 0, 0, 0, 0, 0, 0, 0, 0, 0, 0, 0, 1, 0, 0, 0, 0, 0, 0, 0, 0, 0, 0, 0, 0, 0, 0, 0, 0, 0, 0, 0, 0, 0, 0, 0, 0, 0, 0, 0, 0, 0, 0, 0, 0, 0, 0, 0, 0, 0, 0, 0, 0, 0, 0, 0, 0, 0, 0, 0, 0, 0, 0, 0] 241) (cr_nf R cr_RF none 200 [some 201, some 202, some 203, some 204, some 205, none, some 206, some 207, some 208, some 209, some 210, some 211, some 212, none, some 213, some 214, some 215, some 216, none, none, some 217, some 218, some 219, some 220, none, none, none, none, none, some 221, some 222, some 223, some 224, some 225, none, some 226, some 227, some 228, some 229, none, some 230, some 231, some 232, none, none, none, none, none, some 233, some 234, some 235, some 236, some 237, some 238, some 239, none, none, some 240, none, none, none, none, none, none, none] 241) 241
  refine cr_aload_n h (j := 0) rfl rfl dX9_init_391 ?_
  refine cr_bipush h (v := (6 : Int32)) (by decide) dX9_init_392 ?_
  refine cr_newa h wA_int (N := 6) (by decide) (by decide) rfl (fun k => hZ.aI (by decide) (Nat.le_refl _)) ⟨⟨by decide, by decide, by decide, by decide⟩, rfl, rfl⟩ dX9_init_394 ?_
  rw [hZ.advI (n := 241) (m := 242) (by decide) (by decide) (by decide +kernel), hZ.advR (n := 241) (m := 242) (by decide) (by decide) (by decide +kernel)]
  show cr_V Γ 396 [.ref 200] [.ref 241, .ref 200] (cr_nf I cr_I0 0 200 [0, 0, 0, 0, 0, 0, 0, 0, 0, 0, 0, 0, 0, 1, 0, 0, 0, 0, 0, 0, 0, 0, 0, 0, 0, 0, 0, 0, 0, 0, 0, 0, 0, 0, 0, 0, 0, 0, 0, 0, 0, 0, 0, 0, 0, 0, 0, 0, 0, 0, 0, 0, 0, 0, 0, 0, 0, 0, 0, 0, 0, 0, 0, 0, 0] 242) (cr_nf R cr_RF none 200 [some 201, some 202, some 203, some 204, some 205, none, some 206, some 207, some 208, some 209, some 210, some 211, some 212, none, some 213, some 214, some 215, some 216, none, none, some 217, some 218, some 219, some 220, none, none, none, none, none, some 221, some 222, some 223, some 224, some 225, none, some 226, some 227, some 228, some 229, none, some 230, some 231, some 232, none, none, none, none, none, some 233, some 234, some 235, some 236, some 237, some 238, some 239, none, none, some 240, none, none, none, none, none, none, none] 242) 242
  refine cr_putRF h cr_clsX9 (k := 58) (by decide) (by decide) (Or.inr ⟨_, rfl⟩) rfl rfl rfl rfl wf_X9_134 (by decide) (by decide) rfl dX9_init_396 ?_
  unfold cr_nf
  rw [cr_sB_put (by decide)]
  show cr_V Γ 399 [.ref 200] [] (cr_nf I cr_I0 0 200 [0, 0, 0, 0, 0, 0, 0, 0, 0, 0, 0, 0, 0, 1, 0, 0, 0, 0, 0, 0, 0, 0, 0, 0, 0, 0, 0, 0, 0, 0, 0, 0, 0, 0, 0, 0, 0, 0, 0, 0, 0, 0, 0, 0, 0, 0, 0, 0, 0, 0, 0, 0, 0, 0, 0, 0, 0, 0, 0, 0, 0, 0, 0, 0, 0] 242) (cr_nf R cr_RF none 200 [some 201, some 202, some 203, some 204, some 205, none, some 206, some 207, some 208, some 209, some 210, some 211, some 212, none, some 213, some 214, some 215, some 216, none, none, some 217, some 218, some 219, some 220, none, none, none, none, none, some 221, some 222, some 223, some 224, some 225, none, some 226, some 227, some 228, some 229, none, some 230, some 231, some 232, none, none, none, none, none, some 233, some 234, some 235, some 236, some 237, some 238, some 239, none, none, some 240, some 241, none, none, none, none, none, none] 242) 242
  refine cr_aload_n h (j := 0) rfl rfl dX9_init_399 ?_
  refine cr_bipush h (v := (6 : Int32)) (by decide) dX9_init_400 ?_
  refine cr_newa h wA_int (N := 6) (by decide) (by decide) rfl (fun k => hZ.aI (by decide) (Nat.le_refl _)) ⟨⟨by decide, by decide, by decide, by decide⟩, rfl, rfl⟩ dX9_init_402 ?_
  rw [hZ.advI (n := 242) (m := 243) (by decide) (by decide) (by decide +kernel), hZ.advR (n := 242) (m := 243) (by decide) (by decide) (by decide +kernel)]
  show cr_V Γ 404 [.ref 200] [.ref 242, .ref 200] (cr_nf I cr_I0 0 200 [0, 0, 0, 0, 0, 0, 0, 0, 0, 0, 0, 0, 0, 1, 0, 0, 0, 0, 0, 0, 0, 0, 0, 0, 0, 0, 0, 0, 0, 0, 0, 0, 0, 0, 0, 0, 0, 0, 0, 0, 0, 0, 0, 0, 0, 0, 0, 0, 0, 0, 0, 0, 0, 0, 0, 0, 0, 0, 0, 0, 0, 0, 0, 0, 0] 243) (cr_nf R cr_RF none 200 [some 201, some 202, some 203, some 204, some 205, none, some 206, some 207, some 208, some 209, some 210, some 211, some 212, none, some 213, some 214, some 215, some 216, none, none, some 217, some 218, some 219, some 220, none, none, none, none, none, some 221, some 222, some 223, some 224, some 225, none, some 226, some 227, some 228, some 229, none, some 230, some 231, some 232, none, none, none, none, none, some 233, some 234, some 235, some 236, some 237, some 238, some 239, none, none, some 240, some 241, none, none, none, none, none, none] 243) 243
  refine cr_putRF h cr_clsX9 (k := 59) (by decide) (by decide) (Or.inr ⟨_, rfl⟩) rfl rfl rfl rfl wf_X9_137 (by decide) (by decide) rfl dX9_init_404 ?_
  unfold cr_nf
  rw [cr_sB_put (by decide)]
  show cr_V Γ 407 [.ref 200] [] (cr_nf I cr_I0 0 200 [0, 0, 0, 0, 0, 0, 0, 0, 0, 0, 0, 0, 0, 1, 0, 0, 0, 0, 0, 0, 0, 0, 0, 0, 0, 0, 0, 0, 0, 0, 0, 0, 0, 0, 0, 0, 0, 0, 0, 0, 0, 0, 0, 0, 0, 0, 0, 0, 0, 0, 0, 0, 0, 0, 0, 0, 0, 0, 0, 0, 0, 0, 0, 0, 0] 243) (cr_nf R cr_RF none 200 [some 201, some 202, some 203, some 204, some 205, none, some 206, some 207, some 208, some 209, some 210, some 211, some 212, none, some 213, some 214, some 215, some 216, none, none, some 217, some 218, some 219, some 220, none, none, none, none, none, some 221, some 222, some 223, some 224, some 225, none, some 226, some 227, some 228, some 229, none, some 230, some 231, some 232, none, none, none, none, none, some 233, some 234, some 235, some 236, some 237, some 238, some 239, none, none, some 240, some 241, some 242, none, none, none, none, none] 243) 243
  refine cr_aload_n h (j := 0) rfl rfl dX9_init_407 ?_
  refine cr_iconst h (v := (5 : Int32)) (by decide) dX9_init_408 ?_
  refine cr_newa h wA_int (N := 5) (by decide) (by decide) rfl (fun k => hZ.aI (by decide) (Nat.le_refl _)) ⟨⟨by decide, by decide, by decide, by decide⟩, rfl, rfl⟩ dX9_init_409 ?_
  rw [hZ.advI (n := 243) (m := 244) (by decide) (by decide) (by decide +kernel), hZ.advR (n := 243) (m := 244) (by decide) (by decide) (by decide +kernel)]
  show cr_V Γ 411 [.ref 200] [.ref 243, .ref 200] (cr_nf I cr_I0 0 200 [0, 0, 0, 0, 0, 0, 0, 0, 0, 0, 0, 0, 0, 1, 0, 0, 0, 0, 0, 0, 0, 0, 0, 0, 0, 0, 0, 0, 0, 0, 0, 0, 0, 0, 0, 0, 0, 0, 0, 0, 0, 0, 0, 0, 0, 0, 0, 0, 0, 0, 0, 0, 0, 0, 0, 0, 0, 0, 0, 0, 0, 0, 0, 0, 0] 244) (cr_nf R cr_RF none 200 [some 201, some 202, some 203, some 204, some 205, none, some 206, some 207, some 208, some 209, some 210, some 211, some 212, none, some 213, some 214, some 215, some 216, none, none, some 217, some 218, some 219, some 220, none, none, none, none, none, some 221, some 222, some 223, some 224, some 225, none, some 226, some 227, some 228, some 229, none, some 230, some 231, some 232, none, none, none, none, none, some 233, some 234, some 235, some 236, some 237, some 238, some 239, none, none, some 240, some 241, some 242, none, none, none, none, none] 244) 244
  refine cr_putRF h cr_clsX9 (k := 61) (by decide) (by decide) (Or.inr ⟨_, rfl⟩) rfl rfl rfl rfl wf_X9_140 (by decide) (by decide) rfl dX9_init_411 ?_
  unfold cr_nf
  rw [cr_sB_put (by decide)]
  show cr_V Γ 414 [.ref 200] [] (cr_nf I cr_I0 0 200 [0, 0, 0, 0, 0, 0, 0, 0, 0, 0, 0, 0, 0, 1, 0, 0, 0, 0, 0, 0, 0, 0, 0, 0, 0, 0, 0, 0, 0, 0, 0, 0, 0, 0, 0, 0, 0, 0, 0, 0, 0, 0, 0, 0, 0, 0, 0, 0, 0, 0, 0, 0, 0, 0, 0, 0, 0, 0, 0, 0, 0, 0, 0, 0, 0] 244) (cr_nf R cr_RF none 200 [some 201, some 202, some 203, some 204, some 205, none, some 206, some 207, some 208, some 209, some 210, some 211, some 212, none, some 213, some 214, some 215, some 216, none, none, some 217, some 218, some 219, some 220, none, none, none, none, none, some 221, some 222, some 223, some 224, some 225, none, some 226, some 227, some 228, some 229, none, some 230, some 231, some 232, none, none, none, none, none, some 233, some 234, some 235, some 236, some 237, some 238, some 239, none, none, some 240, some 241, some 242, none, some 243, none, none, none] 244) 244
  refine cr_aload_n h (j := 0) rfl rfl dX9_init_414 ?_
  refine cr_iconst h (v := (5 : Int32)) (by decide) dX9_init_415 ?_
  refine cr_newa h wA_int (N := 5) (by decide) (by decide) rfl (fun k => hZ.aI (by decide) (Nat.le_refl _)) ⟨⟨by decide, by decide, by decide, by decide⟩, rfl, rfl⟩ dX9_init_416 ?_
  rw [hZ.advI (n := 244) (m := 245) (by decide) (by decide) (by decide +kernel), hZ.advR (n := 244) (m := 245) (by decide) (by decide) (by decide +kernel)]
  show cr_V Γ 418 [.ref 200] [.ref 244, .ref 200] (cr_nf I cr_I0 0 200 [0, 0, 0, 0, 0, 0, 0, 0, 0, 0, 0, 0, 0, 1, 0, 0, 0, 0, 0, 0, 0, 0, 0, 0, 0, 0, 0, 0, 0, 0, 0, 0, 0, 0, 0, 0, 0, 0, 0, 0, 0, 0, 0, 0, 0, 0, 0, 0, 0, 0, 0, 0, 0, 0, 0, 0, 0, 0, 0, 0, 0, 0, 0, 0, 0] 245) (cr_nf R cr_RF none 200 [some 201, some 202, some 203, some 204, some 205, none, some 206, some 207, some 208, some 209, some 210, some 211, some 212, none, some 213, some 214, some 215, some 216, none, none, some 217, some 218, some 219, some 220, none, none, none, none, none, some 221, some 222, some 223, some 224, some 225, none, some 226, some 227, some 228, some 229, none, some 230, some 231, some 232, none, none, none, none, none, some 233, some 234, some 235, some 236, some 237, some 238, some 239, none, none, some 240, some 241, some 242, none, some 243, none, none, none] 245) 245
  refine cr_putRF h cr_clsX9 (k := 62) (by decide) (by decide) (Or.inr ⟨_, rfl⟩) rfl rfl rfl rfl wf_X9_143 (by decide) (by decide) rfl dX9_init_418 ?_
  unfold cr_nf
  rw [cr_sB_put (by decide)]
  show cr_V Γ 421 [.ref 200] [] (cr_nf I cr_I0 0 200 [0, 0, 0, 0, 0, 0, 0, 0, 0, 0, 0, 0, 0, 1, 0, 0, 0, 0, 0, 0, 0, 0, 0, 0, 0, 0, 0, 0, 0, 0, 0, 0, 0, 0, 0, 0, 0, 0, 0, 0, 0, 0, 0, 0, 0, 0, 0, 0, 0, 0, 0, 0, 0, 0, 0, 0, 0, 0, 0, 0, 0, 0, 0, 0, 0] 245) (cr_nf R cr_RF none 200 [some 201, some 202, some 203, some 204, some 205, none, some 206, some 207, some 208, some 209, some 210, some 211, some 212, none, some 213, some 214, some 215, some 216, none, none, some 217, some 218, some 219, some 220, none, none, none, none, none, some 221, some 222, some 223, some 224, some 225, none, some 226, some 227, some 228, some 229, none, some 230, some 231, some 232, none, none, none, none, none, some 233, some 234, some 235, some 236, some 237, some 238, some 239, none, none, some 240, some 241, some 242, none, some 243, some 244, none, none] 245) 245
  refine cr_aload_n h (j := 0) rfl rfl dX9_init_421 ?_
  refine cr_bipush h (v := (6 : Int32)) (by decide) dX9_init_422 ?_
  refine cr_newa h wA_int (N := 6) (by decide) (by decide) rfl (fun k => hZ.aI (by decide) (Nat.le_refl _)) ⟨⟨by decide, by decide, by decide, by decide⟩, rfl, rfl⟩ dX9_init_424 ?_
  rw [hZ.advI (n := 245) (m := 246) (by decide) (by decide) (by decide +kernel), hZ.advR (n := 245) (m := 246) (by decide) (by decide) (by decide +kernel)]
  show cr_V Γ 426 [.ref 200] [.ref 245, .ref 200] (cr_nf I cr_I0 0 200 [0, 0, 0, 0, 0, 0, 0, 0, 0, 0, 0, 0, 0, 1, 0, 0, 0, 0, 0, 0, 0, 0, 0, 0, 0, 0, 0, 0, 0, 0, 0, 0, 0, 0, 0, 0, 0, 0, 0, 0, 0, 0, 0, 0, 0, 0, 0, 0, 0, 0, 0, 0, 0, 0, 0, 0, 0, 0, 0, 0, 0, 0, 0, 0, 0] 246) (cr_nf R cr_RF none 200 [some 201, some 202, some 203, some 204, some 205, none, some 206, some 207, some 208, some 209, some 210, some 211, some 212, none, some 213, some 214, some 215, some 216, none, none, some 217, some 218, some 219, some 220, none, none, none, none, none, some 221, some 222, some 223, some 224, some 225, none, some 226, some 227, some 228, some 229, none, some 230, some 231, some 232, none, none, none, none, none, some 233, some 234, some 235, some 236, some 237, some 238, some 239, none, none, some 240, some 241, some 242, none, some 243, some 244, none, none] 246) 246
  refine cr_putRF h cr_clsX9 (k := 63) (by decide) (by decide) (Or.inr ⟨_, rfl⟩) rfl rfl rfl rfl wf_X9_146 (by decide) (by decide) rfl dX9_init_426 ?_
  unfold cr_nf
  rw [cr_sB_put (by decide)]
  show cr_V Γ 429 [.ref 200] [] (cr_nf I cr_I0 0 200 [0, 0, 0, 0, 0, 0, 0, 0, 0, 0, 0, 0, 0, 1, 0, 0, 0, 0, 0, 0, 0, 0, 0, 0, 0, 0, 0, 0, 0, 0, 0, 0, 0, 0, 0, 0, 0, 0, 0, 0, 0, 0, 0, 0, 0, 0, 0, 0, 0, 0, 0, 0, 0, 0, 0, 0, 0, 0, 0, 0, 0, 0, 0, 0, 0] 246) (cr_nf R cr_RF none 200 [some 201, some 202, some 203, some 204, some 205, none, some 206, some 207, some 208, some 209, some 210, some 211, some 212, none, some 213, some 214, some 215, some 216, none, none, some 217, some 218, some 219, some 220, none, none, none, none, none, some 221, some 222, some 223, some 224, some 225, none, some 226, some 227, some 228, some 229, none, some 230, some 231, some 232, none, none, none, none, none, some 233, some 234, some 235, some 236, some 237, some 238, some 239, none, none, some 240, some 241, some 242, none, some 243, some 244, some 245, none] 246) 246
  refine cr_aload_n h (j := 0) rfl rfl dX9_init_429 ?_
  refine cr_bipush h (v := (6 : Int32)) (by decide) dX9_init_430 ?_
  refine cr_newa h wA_int (N := 6) (by decide) (by decide) rfl (fun k => hZ.aI (by decide) (Nat.le_refl _)) ⟨⟨by decide, by decide, by decide, by decide⟩, rfl, rfl⟩ dX9_init_432 ?_
  rw [hZ.advI (n := 246) (m := 247) (by decide) (by decide) (by decide +kernel), hZ.advR (n := 246) (m := 247) (by decide) (by decide) (by decide +kernel)]
  show cr_V Γ 434 [.ref 200] [.ref 246, .ref 200] (cr_nf I cr_I0 0 200 [0, 0, 0, 0, 0, 0, 0, 0, 0, 0, 0, 0, 0, 1, 0, 0, 0, 0, 0, 0, 0, 0, 0, 0, 0, 0, 0, 0, 0, 0, 0, 0, 0, 0, 0, 0, 0, 0, 0, 0, 0, 0, 0, 0, 0, 0, 0, 0, 0, 0, 0, 0, 0, 0, 0, 0, 0, 0, 0, 0, 0, 0, 0, 0, 0] 247) (cr_nf R cr_RF none 200 [some 201, some 202, some 203, some 204, some 205, none, some 206, some 207, some 208, some 209, some 210, some 211, some 212, none, some 213, some 214, some 215, some 216, none, none, some 217, some 218, some 219, some 220, none, none, none, none, none, some 221, some 222, some 223, some 224, some 225, none, some 226, some 227, some 228, some 229, none, some 230, some 231, some 232, none, none, none, none, none, some 233, some 234, some 235, some 236, some 237, some 238, some 239, none, none, some 240, some 241, some 242, none, some 243, some 244, some 245, none] 247) 247
  refine cr_putRF h cr_clsX9 (k := 64) (by decide) (by decide) (Or.inr ⟨_, rfl⟩) rfl rfl rfl rfl wf_X9_149 (by decide) (by decide) rfl dX9_init_434 ?_
  unfold cr_nf
  rw [cr_sB_put (by decide)]
  show cr_V Γ 437 [.ref 200] [] (cr_nf I cr_I0 0 200 [0, 0, 0, 0, 0, 0, 0, 0, 0, 0, 0, 0, 0, 1, 0, 0, 0, 0, 0, 0, 0, 0, 0, 0, 0, 0, 0, 0, 0, 0, 0, 0, 0, 0, 0, 0, 0, 0, 0, 0, 0, 0, 0, 0, 0, 0, 0, 0, 0, 0, 0, 0, 0, 0, 0, 0, 0, 0, 0, 0, 0, 0, 0, 0, 0] 247) (cr_nf R cr_RF none 200 [some 201, some 202, some 203, some 204, some 205, none, some 206, some 207, some 208, some 209, some 210, some 211, some 212, none, some 213, some 214, some 215, some 216, none, none, some 217, some 218, some 219, some 220, none, none, none, none, none, some 221, some 222, some 223, some 224, some 225, none, some 226, some 227, some 228, some 229, none, some 230, some 231, some 232, none, none, none, none, none, some 233, some 234, some 235, some 236, some 237, some 238, some 239, none, none, some 240, some 241, some 242, none, some 243, some 244, some 245, some 246] 247) 247
  rw [cr_nf_end (by decide) (cr_I0_of (by decide +kernel)), cr_nf_end (by decide) (cr_RF_of (by decide +kernel))]
  exact cr_vret h rfl rfl dX9_init_437 hK
/-- the start: which table stands where -/
def cr_tau0 (j : Nat) : Nat := if j = 4 then 3 else 30 + 25 * j
theorem cr_tau0_ok : cr_tau cr_tau0 := by
  refine ⟨fun j hj => ?_, fun i j hi hj e => ?_⟩
  · unfold cr_isT cr_tau0
    rcases (show j = 0 ∨ j = 1 ∨ j = 2 ∨ j = 3 ∨ j = 4 by omega) with rfl | rfl | rfl | rfl | rfl <;> decide
  · unfold cr_tau0 at e
    split at e <;> split at e <;> omega
theorem cr_getD_none {α : Type} {l : List α} {k : Nat} {d : α} (h : l.length ≤ k) : l.getD k d = d := by
  rw [List.getD_eq_getElem?_getD, List.getElem?_eq_none h]
  rfl
theorem cr_RF_rf : cr_RF = cr_rf cr_tau0 := by
  funext b k
  have sp : ∀ b, b ∈ [1, 29, 54, 79, 104] → ∀ k, k < 5 → cr_RF b k = cr_rf cr_tau0 b k := by decide +kernel
  have sl : ∀ b, b ∈ [1, 29, 54, 79, 104] → (cr_rFT.getD b []).length = 5 ∧ (cr_rfT.getD b []).length = 5 := by decide +kernel
  have ot : ∀ b, b < 247 → b ∉ [1, 29, 54, 79, 104] → cr_rFT.getD b [] = cr_rfT.getD b [] := by decide +kernel
  have l1 : cr_rFT.length = 247 := by decide +kernel
  have l2 : cr_rfT.length = 247 := by decide +kernel
  by_cases hb : b ∈ [1, 29, 54, 79, 104]
  · by_cases hk : k < 5
    · exact sp b hb k hk
    · obtain ⟨s1, s2⟩ := sl b hb
      unfold cr_RF cr_rf
      rw [if_neg (by omega), if_neg (by omega), if_neg (by omega), if_neg (by omega), if_neg (by omega)]
      rw [cr_getD_none (show (cr_rFT.getD b []).length ≤ k by omega), cr_getD_none (show (cr_rfT.getD b []).length ≤ k by omega)]
  · have hb' : b ≠ 1 ∧ b ≠ 29 ∧ b ≠ 54 ∧ b ≠ 79 ∧ b ≠ 104 := by
      refine ⟨?_, ?_, ?_, ?_, ?_⟩ <;> (rintro rfl; exact hb (by decide))
    unfold cr_RF cr_rf
    rw [if_neg (by omega), if_neg (by omega), if_neg (by omega), if_neg (by omega), if_neg (by omega)]
    by_cases h2 : b < 247
    · rw [ot b h2 hb]
    · have e1 : cr_rFT.getD b [] = [] := cr_getD_none (by omega)
      have e2 : cr_rfT.getD b [] = [] := cr_getD_none (by omega)
      rw [e1, e2]
