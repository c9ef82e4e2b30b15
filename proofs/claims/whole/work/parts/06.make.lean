theorem cr_wd_app {ad : Nat → Nat} {g : cr_g} {I : cr_I} {R : cr_R} {n : Nat} : cr_wd ad g I R (n + 1) = cr_wd ad g I R n ++ [(ad n, cr_ce ad g I R n)] := by
  unfold cr_wd
  rw [List.range_succ, List.map_append]
  rfl
theorem cr_sl_succ {n k N : Nat} (h : cr_kd n = (k, N)) (hn : n < 247) : cr_sl (n + 1) = cr_sl n + N := by
  unfold cr_sl
  rw [List.take_succ]
  have hl : n < cr_kdT.length := by
    have : cr_kdT.length = 247 := by decide +kernel
    omega
  have e : cr_kdT[n]? = some (cr_kdT[n]'hl) := List.getElem?_eq_getElem hl
  have e2 : cr_kdT[n]'hl = (k, N) := by
    have : cr_kd n = cr_kdT[n]'hl := by
      unfold cr_kd
      rw [List.getD_eq_getElem?_getD, e]
      rfl
    rw [← this, h]
  rw [e, e2]
  simp
theorem cr_push {D : va_G} {ad : Nat → Nat} {g : cr_g} {I : cr_I} {R : cr_R} {n base : Nat} {H H1 : Heap} (hA : cr_ad ad base) (hn : n < 247) (hP : va_P D cr_cl (cr_wd ad g I R n) H) (hz : H.size = base + n) (hk : ∀ q : Nat, q < H.size → H1[q]? = H[q]?) (hc : va_at D cr_cl (ad n, cr_ce ad g I R n) H1) : va_P D cr_cl (cr_wd ad g I R (n + 1)) H1 := by
  rw [cr_wd_app]
  refine va_P.app (hP.kept fun k q hq => hk q.1 ?_) (fun k q hq => ?_)
  · exact (hP k q hq).lt
  · have h0 : k < 1 := (List.getElem?_eq_some_iff.mp hq).1
    rw [show k = 0 by omega] at hq
    cases hq
    exact hc
theorem cr_grow {base : Nat} {H0 H H1 : Heap} {locs : List Loc} (hS : va_S (fun q => base ≤ q) H0 H locs) (hz : H.size ≤ H1.size) (hk : ∀ q : Nat, q < H.size → H1[q]? = H[q]?) : va_S (fun q => base ≤ q) H0 H1 locs :=
  ⟨Nat.le_trans hS.1 hz, fun q h1 h2 => (hk q (Nat.lt_of_lt_of_le h1 hS.1)).trans (hS.2.1 q h1 h2), hS.2.2⟩
section CRN
variable {y : MethodName} {cc : ByteArray} {nL : Nat} {ret : Option FieldType} {rm : Room} {K : cr_K} {nS nE : Nat} {Γ : cr_G} {pc : Nat} {ls st : List Value} {I : cr_I} {R : cr_R} {n : Nat}
/-- the room that a making wants -/
def cr_rn (rm : Room) (nS n n' nE : Nat) : Prop := (nS ≤ n ∧ n < n' ∧ n' ≤ nE ∧ nE ≤ 247) ∧ rm.cells = nE - nS ∧ rm.slots = cr_sl nE - cr_sl nS
theorem cr_new (h : cr_Ok y cc nL ret rm K nS nE Γ) {i c0 N : Nat} {C : String} {T : u_T} {ty : Nat → FieldType} (hc : cr_cls c0 C T N ty) (hw1 : Cond.classLink y.cls i C ∈ cr_GW) (hw2 : Cond.instantiable C N ∈ cr_GW) (hw3 : Cond.initialized C ∈ cr_GW) (hkd : cr_kd n = (c0 + 3, N)) (hI : ∀ k, k < N → I n k = 0) (hR : ∀ k, k < N → R n k = none) (htf : ∀ k, k < N → defaultValue (ty k) = if cr_fi c0 k = true then .int 0 else .null) (hrn : cr_rn rm nS n (n + 1) nE) (d : decode cc pc = .ok (.new i, 3)) (k1 : cr_V Γ (pc + 3) ls (.ref n :: st) I R (n + 1)) : cr_V Γ pc ls st I R n := by
  obtain ⟨⟨p, l, e, Rm, s, m, args, below, meth, c⟩, Q, D, g, ad, base, n0⟩ := Γ
  obtain ⟨hx, hb, hml, hown, hts, hK, hST, hlk, hrt, hA, hs0, hQ, hrm, hnm, hn0⟩ := h
  intro H locs la hP hz hS hl
  subst hn0
  subst hrm
  obtain ⟨⟨hr4, hr5, hr6, hr9⟩, hr7, hr8⟩ := hrn
  have hn : n < 247 := by omega
  have hz := hz hn
  have ms1 := cr_sl_mono hr4
  have ms2 := cr_sl_mono hr6
  have ms3 := cr_sl_succ hkd hn
  obtain ⟨hcl, hin, hty, -⟩ := hc
  have hKn := hK.1 c0 _ hcl
  refine W.newcK hx hb hown (hts _ hw1) (hts _ hw2) (hts _ hw3) rfl d (by omega) (by omega) hKn.2.1 rfl fun H1 kC hkC e1 z1 o1 => ?_
  have c1 : n - n0 + 1 = n + 1 - n0 := by omega
  have c2 : cr_sl n - cr_sl n0 + N = cr_sl (n + 1) - cr_sl n0 := by omega
  rw [c1, c2]
  have ea : ad n = H.size := by rw [hA n (by omega), hz]
  have hP1 : va_P D cr_cl (cr_wd ad g I R (n + 1)) H1 := by
    refine cr_push hA hn hP hz o1 ?_
    rw [cr_ce_obj hkd, ea]
    refine ⟨_, hcl, (u_born ty hts hin hKn hkC e1 hty).to fun j hj => ?_⟩
    rw [htf j hj]
    simp only [vp_V, List.getD_eq_getElem?_getD, cr_fs_at hj, hI j hj, hR j hj]
    rfl
  have := k1 H1 locs la hP1 (fun _ => by rw [z1, hz]; omega) (cr_grow hS (by omega) o1) hl
  rw [List.map_cons, show cr_tr ad (.ref n) = .ref (ad n) from rfl, ea] at this
  exact this
theorem cr_newa (h : cr_Ok y cc nL ret rm K nS nE Γ) {N : Nat} {i : Int32} (harr : Cond.arrayClass .int ∈ cr_GW) (hi : i.toInt = N) (hN : N ≤ 1000) (hkd : cr_kd n = (0, N)) (hI : ∀ k, I n k = 0) (hrn : cr_rn rm nS n (n + 1) nE) (d : decode cc pc = .ok (.newarray .int, 2)) (k1 : cr_V Γ (pc + 2) ls (.ref n :: st) I R (n + 1)) : cr_V Γ pc ls (.int i :: st) I R n := by
  obtain ⟨⟨p, l, e, Rm, s, m, args, below, meth, c⟩, Q, D, g, ad, base, n0⟩ := Γ
  obtain ⟨hx, hb, hml, hown, hts, hK, hST, hlk, hrt, hA, hs0, hQ, hrm, hnm, hn0⟩ := h
  intro H locs la hP hz hS hl
  subst hn0
  subst hrm
  obtain ⟨⟨hr4, hr5, hr6, hr9⟩, hr7, hr8⟩ := hrn
  have hn : n < 247 := by omega
  have hz := hz hn
  have ms1 := cr_sl_mono hr4
  have ms2 := cr_sl_mono hr6
  have ms3 := cr_sl_succ hkd hn
  have hi0 : ¬ i < 0 := by
    rw [Int32.lt_iff_toInt_lt, hi]
    simp
  have hi1 : i.toNatClampNeg = N := by
    show i.toInt.toNat = N
    rw [hi]
    simp
  refine va_newaK hx hb (atype := .int) (hts _ harr) rfl d rfl hi0 hi1 (by show N * 4 ≤ _; omega) (by omega) (by omega) rfl fun H1 cA e1 z1 o1 hAr hNm => ?_
  have c1 : n - n0 + 1 = n + 1 - n0 := by omega
  have c2 : cr_sl n - cr_sl n0 + N = cr_sl (n + 1) - cr_sl n0 := by omega
  rw [c1, c2]
  have ea : ad n = H.size := by rw [hA n (by omega), hz]
  have ec : cA = g.1 := by
    have h1 : s.vm.findClass ("[" ++ FieldType.int.toString) = some g.1 := (hK.2 0 _ rfl).2
    exact Option.some.inj (hNm.symm.trans h1)
  subst ec
  have hP1 : va_P D cr_cl (cr_wd ad g I R (n + 1)) H1 := by
    refine cr_push hA hn hP hz o1 ?_
    rw [cr_ce_int hkd, ea]
    show H1[H.size]? = some (vp_cell _ _)
    rw [e1, vp_cell_i]
    congr 2
    funext j
    rw [hI j]
    rfl
  have := k1 H1 locs la hP1 (fun _ => by rw [z1, hz]; omega) (cr_grow hS (by omega) o1) hl
  rw [List.map_cons, show cr_tr ad (.ref n) = .ref (ad n) from rfl, ea] at this
  exact this
theorem cr_anew (h : cr_Ok y cc nL ret rm K nS nE Γ) {N j : Nat} {i : Int32} (hw : Cond.classLink y.cls j "CartRows$Make" ∈ cr_GW) (hi : i.toInt = N) (hN : N ≤ 1000) (hkd : cr_kd n = (2, N)) (hR : ∀ k, R n k = none) (hrn : cr_rn rm nS n (n + 1) nE) (d : decode cc pc = .ok (.anewarray j, 3)) (k1 : cr_V Γ (pc + 3) ls (.ref n :: st) I R (n + 1)) : cr_V Γ pc ls (.int i :: st) I R n := by
  obtain ⟨⟨p, l, e, Rm, s, m, args, below, meth, c⟩, Q, D, g, ad, base, n0⟩ := Γ
  obtain ⟨hx, hb, hml, hown, hts, hK, hST, hlk, hrt, hA, hs0, hQ, hrm, hnm, hn0⟩ := h
  intro H locs la hP hz hS hl
  subst hn0
  subst hrm
  obtain ⟨⟨hr4, hr5, hr6, hr9⟩, hr7, hr8⟩ := hrn
  have hn : n < 247 := by omega
  have hz := hz hn
  have ms1 := cr_sl_mono hr4
  have ms2 := cr_sl_mono hr6
  have ms3 := cr_sl_succ hkd hn
  have hi0 : ¬ i < 0 := by
    rw [Int32.lt_iff_toInt_lt, hi]
    simp
  have hi1 : i.toNatClampNeg = N := by
    show i.toInt.toNat = N
    rw [hi]
    simp
  refine W.anew hx hb hown (hts _ hw) (va_AO.use hST.2.2.2.2.2.2.2) rfl d rfl hi0 (by rw [hi1]; omega) (by omega) (by rw [hi1]; omega) fun cA kA comp f1 f2 f3 f4 => ?_
  have c1 : n - n0 + 1 = n + 1 - n0 := by omega
  have c2 : cr_sl n - cr_sl n0 + N = cr_sl (n + 1) - cr_sl n0 := by omega
  rw [hi1, c1, c2]
  have ea : ad n = H.size := by rw [hA n (by omega), hz]
  have ec : cA = g.2.2 := by
    obtain ⟨_, _, -, -, -, h4⟩ := (hK.2 2 _ rfl).2
    exact Option.some.inj (f1.symm.trans h4)
  subst ec
  have o1 : ∀ q : Nat, q < H.size → (H.push { cls := g.2.2, slots := Array.replicate N .null, vm := .none })[q]? = H[q]? := fun q hq => by
    rw [Array.getElem?_push, if_neg (Nat.ne_of_lt hq)]
  have hP1 : va_P D cr_cl (cr_wd ad g I R (n + 1)) (H.push { cls := g.2.2, slots := Array.replicate N .null, vm := .none }) := by
    refine cr_push hA hn hP hz o1 ?_
    rw [cr_ce_mak hkd, ea]
    show (H.push _)[H.size]? = some (vp_cell _ _)
    rw [Array.getElem?_push, if_pos rfl, vp_cell_q, arrV_new]
    congr 2
    funext j
    rw [hR j]
    rfl
  have := k1 _ locs la hP1 (fun _ => by simp; rw [hz]; omega) (cr_grow hS (by simp) o1) hl
  rw [List.map_cons, show cr_tr ad (.ref n) = .ref (ad n) from rfl, ea] at this
  exact this
theorem cr_aast (h : cr_Ok y cc nL ret rm K nS nE Γ) {b N x c0 N0 : Nat} {i : Int32} {r : vw_C} (hbn : b < n) (hnn : n ≤ 1000) (hkd : cr_kd b = (2, N)) (hxn : x < n) (hkx : cr_kd x = (c0 + 3, N0)) (hc0 : cr_cl[c0]? = some r) (hr0 : r.1 = "CartRows$Make") (h0 : 0 ≤ i.toInt ∧ i.toInt < N) (d : decode cc pc = .ok (.aastore, 1)) (k1 : cr_V Γ (pc + 1) ls st I (cr_up R b i.toNatClampNeg (some x)) n) : cr_V Γ pc ls (.ref x :: .int i :: .ref b :: st) I R n := by
  obtain ⟨⟨p, l, e, Rm, s, m, args, below, meth, c⟩, Q, D, g, ad, base, n0⟩ := Γ
  obtain ⟨hx, hb, hml, hown, hts, hK, hST, hlk, hrt, hA, hs0, hQ, hrm, hnm, hn0⟩ := h
  intro H locs la hP hz hS hl
  have hD := cr_wd_D (g := g) (I := I) (R := R) hA hnn
  have hin := cr_vin h0.1 h0.2
  have hlt : i.toNatClampNeg < N := Nat.not_le.mp fun q => hin (Or.inr q)
  have h00 : ¬ i < 0 := fun q => hin (Or.inl q)
  have he : (cr_wd ad g I R n)[b]? = some (ad b, .inl (g.2.2, N, .inr (.inr (.inr (.inr (fun j => (R b j).map ad)))))) := by rw [cr_wd_at hbn, cr_ce_mak hkd]
  have hv : (cr_wd ad g I R n)[x]? = some (ad x, .inr (c0, cr_fs ad I R c0 N0 x)) := by rw [cr_wd_at hxn, cr_ce_obj hkx]
  obtain ⟨r', hr', cellV, g1, g2, g3, -⟩ := hP x _ hv
  have hcls := (hK.1 c0 r hc0).2
  obtain ⟨kA, comp, k1', k2, k3, -⟩ := (hK.2 2 _ rfl).2
  have hcomp : comp = D.1 c0 := Option.some.inj (k3.symm.trans (by rw [← hr0]; exact hcls.1))
  subst hcomp
  obtain ⟨kC, hkC, -⟩ := hcls.2
  refine W.aast hx hb (hP b _ he) (fun q h => by cases h) (fun h => by cases h) k1' k2 rfl hkC ⟨h00, by show _ < (arrV _ _ _).slots.size; rw [arrV_size]; exact hlt⟩ g1 (fun q h => by rw [g3] at h; cases h) (by rw [g2]; exact hkC) (by rw [g2]; exact va_assign hcls) rfl rfl d fun H1 e z oq => ?_
  have hP' := hP.set hD he (e := .inl (g.2.2, N, .inr (.inr (.inr (.inr (fun j => (cr_up R b i.toNatClampNeg (some x) b j).map ad)))))) (by
    show H1[ad b]? = some (vp_cell _ _)
    rw [e, vp_cell_q, vp_cell_q, arrV_store]
    congr 2
    funext q
    by_cases hq : q = i.toNatClampNeg
    · subst hq
      simp [updV, cr_up, va_rf]
    · simp [updV, cr_up, hq]) oq
  rw [← cr_ce_mak (ad := ad) (g := g) (I := I) hkd, cr_wd_set hbn (fun x _ hx => cr_ce_upR hx)] at hP'
  exact k1 H1 _ la hP' (fun q => z.trans (hz q)) (hS.put z oq (hD.2 b _ he)) hl
end CRN
