/-! ===== today's dungeon ===== -/
def hdS (s : sS) (R : Int → Int) (d : Int) : Bool := decide (s 12 d 0 = s 7 0 0 ∧ sm6 (s 13 d) R)
abbrev tdO (s : sS) : Prop := s 6 0 0 ≠ 0 ∧ psb s (s 8 0 0)
def tdR (s : sS) : Int → Int := rls s (s 8 0 0)
/-- the number of today's dungeon, if it was had -/
def tdD (s : sS) : Int := fnd (hdS s (tdR s)) (s 11 0 0).toNat
theorem RC_hd {h : ac_H} {x : Int} {ad s : sS} {R : Int → Int} (hR : RC h x ad s) (hr : ∀ i, 0 ≤ i → i < 6 → h 10 (h 604 (h 900 x 0) 0) i = R i) : hdF h x = fnd (hdS s R) (s 11 0 0).toNat := by
  obtain ⟨z6, z7, z8, z9, z11, z18⟩ := RC_90 hR
  unfold hdF
  rw [z11]
  refine fnd_congr _ fun d d0 d1 => ?_
  obtain ⟨f1, f2, f3, f4, f5, f6, -⟩ := hR.2.1
  obtain ⟨x1, x2, x3, x4, x5, x6, x7, x8, x9, x10, x11, x12⟩ := hR.2.2.2.2.2.2.1 d d0 (by omega)
  unfold hdP hdS
  rw [f6, x2, x5, x6, z7]
  have e : sm6 (h 10 (ad 21 d 0)) (h 10 (h 604 (h 900 x 0) 0)) ↔ sm6 (s 13 d) R := by
    rw [sm6_all, sm6_all]
    constructor
    · intro q i i0 i1
      rw [← x10 i i0 i1, ← hr i i0 i1]; exact q i i0 i1
    · intro q i i0 i1
      rw [x10 i i0 i1, hr i i0 i1]; exact q i i0 i1
  by_cases q : s 12 d 0 = s 7 0 0 ∧ sm6 (s 13 d) R
  · rw [decide_eq_true q, decide_eq_true ⟨q.1, e.mpr q.2⟩]
  · rw [decide_eq_false q, decide_eq_false (fun q2 => q ⟨q2.1, e.mp q2.2⟩)]
theorem mk_x {h : ac_H} {x set : Int} {n : Nat} {ad s : sS} (hR : RC h x ad s) : mkH h (h 900 x 0) set n 0 x 0 = 28 ∧ mkH h (h 900 x 0) set n 900 x 0 = h 900 x 0 ∧ mkH h (h 900 x 0) set n 604 (h 900 x 0) 0 = h 604 (h 900 x 0) 0 ∧ ∀ i, 0 ≤ i → i < 6 → mkH h (h 900 x 0) set n 10 (h 604 (h 900 x 0) 0) i = rlB (orH h (h 900 x 0) set n) (h 900 x 0) n i := by
  refine ⟨?_, ?_, ?_, fun i i0 i1 => ?_⟩
  · simp only [mkH, orH_k, up_k, ast_k, up_kf, ast_kf, ne_eq, Nat.reduceEqDiff, not_false_eq_true]; exact hR.2.1.2.2.1
  · simp only [mkH, orH_k, up_k, ast_k, up_kf, ast_kf, ne_eq, Nat.reduceEqDiff, not_false_eq_true]
  · simp only [mkH, orH_k, up_k, ast_k, up_kf, ast_kf, ne_eq, Nat.reduceEqDiff, not_false_eq_true]
  · simp only [mkH]; rw [ast_10, six, if_pos ⟨i0, i1⟩]
theorem RC_td {h : ac_H} {x : Int} {n : Nat} {ad s : sS} (hR : RC h x ad s) (hS : SI s) (hn : orN (pnd h (h 900 x 0)) (h 601 (h 900 x 0) 0) (h 903 x 0) n) : hdF (mkH h (h 900 x 0) (h 903 x 0) n) x = tdD s := by
  obtain ⟨m1, m2, m3, m4⟩ := mk_x (set := h 903 x 0) (n := n) hR
  refine RC_hd (RC_mk hR) fun i i0 i1 => ?_
  rw [m2, m3, m4 i i0 i1, RC_rls hR hS hn, (RC_90 hR).2.2.1]; rfl
theorem RC_td0 {h : ac_H} {x : Int} {n : Nat} {ad s : sS} (hR : RC h x ad s) (hn : orN (pnd h (h 900 x 0)) (h 601 (h 900 x 0) 0) (h 903 x 0) n) : stp (pnd h (h 900 x 0)) (h 601 (h 900 x 0) 0) (h 903 x 0) n = h 903 x 0 ↔ psb s (s 8 0 0) := by
  obtain ⟨o1, o2, o3⟩ := RC_orN hR hn
  rw [o2, (RC_90 hR).2.2.1]
def vlToday (s : sS) : Int := if tdO s then tdD s else -1
def spX8_dungeonToday : ac_Sp := sc_R (fun x h => CW h x) (fun x h v h' => OKc x h h' v (fun _ => 0) vlToday id) (fun _ _ _ _ => False)
set_option maxRecDepth 100000 in
set_option maxHeartbeats 4000000 in
theorem mtX8_dungeonToday {G : ac_G} {l : Launch} : ac_Met G l yX8_dungeonToday mX8_dungeonToday 5 108 0 0 spX8_dungeonToday := by
  refine ac_meth1 (pcs := pcX8_dungeonToday) (B := fun P X J j => vcX8_dungeonToday spX8_makeRulesToday spX8_hadToday P X J j) (by decide) rfl rfl rfl (fun P X J hJ j => sdX8_dungeonToday mtX8_makeRulesToday mtX8_hadToday P X J hJ j) (hp_R (by decide)) fun As h hp => ?_
  obtain ⟨x, rfl, hp⟩ := sh_R_inv hp
  simp only [spX8_dungeonToday, vcX8_dungeonToday, mX8_dungeonToday, spX8_makeRulesToday, spX8_hadToday, sc_R, sh_R, ac_ent, ldI, ldR, stI, stR, inc, cI, cJ, cN, bop, oAdd, oSub, oMul, oAnd, oOr, oXor, oShl, oShr, oUshr, oRem, oDiv, oMx, oMn, oI2l, oLcmp, oDup, oDup2, oDupX1, oPop, bIc, bI0, bNul, getI, getR, putI, putZ, putR, aLen, aldI, aldZ, aldJ, aldR, astI, astZ, astJ, astR, nwO, nwA, gsT, oObj, oCpy, oCln, oCst, rtI, rtZ, rtR, rtV, thr, call, callH, ac_hsel, ac_as, ac_rs, ac_cs, ac_rcv, List.map_cons, List.map_nil, List.length_cons, List.length_nil, List.replicate, List.append_nil, List.cons_append, List.nil_append, List.getElem?_cons_zero, List.getElem?_cons_succ, List.set, Nat.zero_add, Nat.add_zero, Nat.le_refl, Nat.reduceAdd, Nat.reduceSub, Nat.reduceLeDiff, Int.reduceLT, Int.reduceLE, Int.reduceNeg, Int.reduceEq, true_and, and_true, true_or, or_true, not_true_eq_false, not_false_eq_true, false_implies, true_implies, implies_true, reduceIte, and_self, Int.reduceAdd, Int.reduceMul, Int.reduceSub, eq_self, Int.add_zero, Int.zero_add, String.reduceEq, Nat.zero_le, Option.some.injEq, Sum.inl.injEq, Sum.inr.injEq, reduceCtorEq, Int.reduceToNat, Option.toList_some, Option.toList_none, ac_cs, ac_c10, ac_c11, ac_c12, ac_c13, ac_c14, ac_c15, ac_c16, ac_c17, sc_E, sh_E, sc_I, sh_I, sc_II, sh_II, sc_III, sh_III, sc_R, sh_R, sc_RI, sh_RI, sc_RII, sh_RII, sc_RIII, sh_RIII, sc_RIIII, sh_RIIII, sc_RR, sh_RR, sc_RRI, sh_RRI, sc_RRR, sh_RRR, sc_RIR, sh_RIR, sc_RIRI, sh_RIRI, sc_RRII, sh_RRII, sc_RRIII, sh_RRIII, sc_RIIRR, sh_RIIRR, sc_RIIIRR, sh_RIIIRR, sc_RIIR, sh_RIIR, sc_RRIIR, sh_RRIIR, sc_RRIIIR, sh_RRIIIR, sc_RRIIIIR, sh_RRIIIIR, sc_RRIR, sh_RRIR]
  have hC : CW h x := hp
  obtain ⟨ad, s, hR, hS⟩ := hp
  have h1 : h 0 x 0 = 28 := hR.2.1.2.2.1
  simp only [h1, hC, ac_ent, ldI, ldR, stI, stR, inc, cI, cJ, cN, bop, oAdd, oSub, oMul, oAnd, oOr, oXor, oShl, oShr, oUshr, oRem, oDiv, oMx, oMn, oI2l, oLcmp, oDup, oDup2, oDupX1, oPop, bIc, bI0, bNul, getI, getR, putI, putZ, putR, aLen, aldI, aldZ, aldJ, aldR, astI, astZ, astJ, astR, nwO, nwA, gsT, oObj, oCpy, oCln, oCst, rtI, rtZ, rtR, rtV, thr, call, callH, ac_hsel, ac_as, ac_rs, ac_cs, ac_rcv, List.map_cons, List.map_nil, List.length_cons, List.length_nil, List.replicate, List.append_nil, List.cons_append, List.nil_append, List.getElem?_cons_zero, List.getElem?_cons_succ, List.set, Nat.zero_add, Nat.add_zero, Nat.le_refl, Nat.reduceAdd, Nat.reduceSub, Nat.reduceLeDiff, Int.reduceLT, Int.reduceLE, Int.reduceNeg, Int.reduceEq, true_and, and_true, true_or, or_true, not_true_eq_false, not_false_eq_true, false_implies, true_implies, implies_true, reduceIte, and_self, Int.reduceAdd, Int.reduceMul, Int.reduceSub, eq_self, Int.add_zero, Int.zero_add, String.reduceEq, Nat.zero_le, Option.some.injEq, Sum.inl.injEq, Sum.inr.injEq, reduceCtorEq, Int.reduceToNat, Option.toList_some, Option.toList_none, ac_cs, ac_c10, ac_c11, ac_c12, ac_c13, ac_c14, ac_c15, ac_c16, ac_c17, sc_E, sh_E, sc_I, sh_I, sc_II, sh_II, sc_III, sh_III, sc_R, sh_R, sc_RI, sh_RI, sc_RII, sh_RII, sc_RIII, sh_RIII, sc_RIIII, sh_RIIII, sc_RR, sh_RR, sc_RRI, sh_RRI, sc_RRR, sh_RRR, sc_RIR, sh_RIR, sc_RIRI, sh_RIRI, sc_RRII, sh_RRII, sc_RRIII, sh_RRIII, sc_RIIRR, sh_RIIRR, sc_RIIIRR, sh_RIIIRR, sc_RIIR, sh_RIIR, sc_RRIIR, sh_RRIIR, sc_RRIIIR, sh_RRIIIR, sc_RRIIIIR, sh_RRIIIIR, sc_RRIR, sh_RRIR]
  rintro v h' (⟨c0, rfl, rfl⟩ | ⟨c0, n, hn, ⟨c1, rfl, rfl⟩ | ⟨c1, rfl, rfl⟩⟩)
  · simp only [ac_ent, ldI, ldR, stI, stR, inc, cI, cJ, cN, bop, oAdd, oSub, oMul, oAnd, oOr, oXor, oShl, oShr, oUshr, oRem, oDiv, oMx, oMn, oI2l, oLcmp, oDup, oDup2, oDupX1, oPop, bIc, bI0, bNul, getI, getR, putI, putZ, putR, aLen, aldI, aldZ, aldJ, aldR, astI, astZ, astJ, astR, nwO, nwA, gsT, oObj, oCpy, oCln, oCst, rtI, rtZ, rtR, rtV, thr, call, callH, ac_hsel, ac_as, ac_rs, ac_cs, ac_rcv, List.map_cons, List.map_nil, List.length_cons, List.length_nil, List.replicate, List.append_nil, List.cons_append, List.nil_append, List.getElem?_cons_zero, List.getElem?_cons_succ, List.set, Nat.zero_add, Nat.add_zero, Nat.le_refl, Nat.reduceAdd, Nat.reduceSub, Nat.reduceLeDiff, Int.reduceLT, Int.reduceLE, Int.reduceNeg, Int.reduceEq, true_and, and_true, true_or, or_true, not_true_eq_false, not_false_eq_true, false_implies, true_implies, implies_true, reduceIte, and_self, Int.reduceAdd, Int.reduceMul, Int.reduceSub, eq_self, Int.add_zero, Int.zero_add, String.reduceEq, Nat.zero_le, Option.some.injEq, Sum.inl.injEq, Sum.inr.injEq, reduceCtorEq, Int.reduceToNat, Option.toList_some, Option.toList_none, ac_cs, ac_c10, ac_c11, ac_c12, ac_c13, ac_c14, ac_c15, ac_c16, ac_c17, sc_E, sh_E, sc_I, sh_I, sc_II, sh_II, sc_III, sh_III, sc_R, sh_R, sc_RI, sh_RI, sc_RII, sh_RII, sc_RIII, sh_RIII, sc_RIIII, sh_RIIII, sc_RR, sh_RR, sc_RRI, sh_RRI, sc_RRR, sh_RRR, sc_RIR, sh_RIR, sc_RIRI, sh_RIRI, sc_RRII, sh_RRII, sc_RRIII, sh_RRIII, sc_RIIRR, sh_RIIRR, sc_RIIIRR, sh_RIIIRR, sc_RIIR, sh_RIIR, sc_RRIIR, sh_RRIIR, sc_RRIIIR, sh_RRIIIR, sc_RRIIIIR, sh_RRIIIIR, sc_RRIR, sh_RRIR]
    intro ad s hR hS
    have := (RC_90 hR).1
    exact ⟨rfl, by rw [vlToday, if_neg (fun q => q.1 (by omega))], okS_rf hR⟩
  · obtain ⟨m1, m2, m3, m4⟩ := mk_x (set := h 903 x 0) (n := n) hR
    simp only [m1, CW_mk hC, ac_ent, ldI, ldR, stI, stR, inc, cI, cJ, cN, bop, oAdd, oSub, oMul, oAnd, oOr, oXor, oShl, oShr, oUshr, oRem, oDiv, oMx, oMn, oI2l, oLcmp, oDup, oDup2, oDupX1, oPop, bIc, bI0, bNul, getI, getR, putI, putZ, putR, aLen, aldI, aldZ, aldJ, aldR, astI, astZ, astJ, astR, nwO, nwA, gsT, oObj, oCpy, oCln, oCst, rtI, rtZ, rtR, rtV, thr, call, callH, ac_hsel, ac_as, ac_rs, ac_cs, ac_rcv, List.map_cons, List.map_nil, List.length_cons, List.length_nil, List.replicate, List.append_nil, List.cons_append, List.nil_append, List.getElem?_cons_zero, List.getElem?_cons_succ, List.set, Nat.zero_add, Nat.add_zero, Nat.le_refl, Nat.reduceAdd, Nat.reduceSub, Nat.reduceLeDiff, Int.reduceLT, Int.reduceLE, Int.reduceNeg, Int.reduceEq, true_and, and_true, true_or, or_true, not_true_eq_false, not_false_eq_true, false_implies, true_implies, implies_true, reduceIte, and_self, Int.reduceAdd, Int.reduceMul, Int.reduceSub, eq_self, Int.add_zero, Int.zero_add, String.reduceEq, Nat.zero_le, Option.some.injEq, Sum.inl.injEq, Sum.inr.injEq, reduceCtorEq, Int.reduceToNat, Option.toList_some, Option.toList_none, ac_cs, ac_c10, ac_c11, ac_c12, ac_c13, ac_c14, ac_c15, ac_c16, ac_c17, sc_E, sh_E, sc_I, sh_I, sc_II, sh_II, sc_III, sh_III, sc_R, sh_R, sc_RI, sh_RI, sc_RII, sh_RII, sc_RIII, sh_RIII, sc_RIIII, sh_RIIII, sc_RR, sh_RR, sc_RRI, sh_RRI, sc_RRR, sh_RRR, sc_RIR, sh_RIR, sc_RIRI, sh_RIRI, sc_RRII, sh_RRII, sc_RRIII, sh_RRIII, sc_RIIRR, sh_RIIRR, sc_RIIIRR, sh_RIIIRR, sc_RIIR, sh_RIIR, sc_RRIIR, sh_RRIIR, sc_RRIIIR, sh_RRIIIR, sc_RRIIIIR, sh_RRIIIIR, sc_RRIR, sh_RRIR]
    rintro v g ⟨rfl, rfl⟩
    simp only [ac_ent, ldI, ldR, stI, stR, inc, cI, cJ, cN, bop, oAdd, oSub, oMul, oAnd, oOr, oXor, oShl, oShr, oUshr, oRem, oDiv, oMx, oMn, oI2l, oLcmp, oDup, oDup2, oDupX1, oPop, bIc, bI0, bNul, getI, getR, putI, putZ, putR, aLen, aldI, aldZ, aldJ, aldR, astI, astZ, astJ, astR, nwO, nwA, gsT, oObj, oCpy, oCln, oCst, rtI, rtZ, rtR, rtV, thr, call, callH, ac_hsel, ac_as, ac_rs, ac_cs, ac_rcv, List.map_cons, List.map_nil, List.length_cons, List.length_nil, List.replicate, List.append_nil, List.cons_append, List.nil_append, List.getElem?_cons_zero, List.getElem?_cons_succ, List.set, Nat.zero_add, Nat.add_zero, Nat.le_refl, Nat.reduceAdd, Nat.reduceSub, Nat.reduceLeDiff, Int.reduceLT, Int.reduceLE, Int.reduceNeg, Int.reduceEq, true_and, and_true, true_or, or_true, not_true_eq_false, not_false_eq_true, false_implies, true_implies, implies_true, reduceIte, and_self, Int.reduceAdd, Int.reduceMul, Int.reduceSub, eq_self, Int.add_zero, Int.zero_add, String.reduceEq, Nat.zero_le, Option.some.injEq, Sum.inl.injEq, Sum.inr.injEq, reduceCtorEq, Int.reduceToNat, Option.toList_some, Option.toList_none, ac_cs, ac_c10, ac_c11, ac_c12, ac_c13, ac_c14, ac_c15, ac_c16, ac_c17, sc_E, sh_E, sc_I, sh_I, sc_II, sh_II, sc_III, sh_III, sc_R, sh_R, sc_RI, sh_RI, sc_RII, sh_RII, sc_RIII, sh_RIII, sc_RIIII, sh_RIIII, sc_RR, sh_RR, sc_RRI, sh_RRI, sc_RRR, sh_RRR, sc_RIR, sh_RIR, sc_RIRI, sh_RIRI, sc_RRII, sh_RRII, sc_RRIII, sh_RRIII, sc_RIIRR, sh_RIIRR, sc_RIIIRR, sh_RIIIRR, sc_RIIR, sh_RIIR, sc_RRIIR, sh_RRIIR, sc_RRIIIR, sh_RRIIIR, sc_RRIIIIR, sh_RRIIIIR, sc_RRIR, sh_RRIR]
    have br : hdF (mkH h (h 900 x 0) (h 903 x 0) n) x = tdD s := RC_td hR hS hn
    by_cases q : hdF (mkH h (h 900 x 0) (h 903 x 0) n) x = -1
    · rw [if_pos q]
      refine ⟨fun _ => ?_, fun e => absurd rfl e⟩
      intro ad s hR hS
      have := (RC_90 hR).1
      refine ⟨rfl, ?_, okS_mk hR⟩
      rw [vlToday, if_pos ⟨by omega, (RC_td0 hR hn).mp c1⟩, ← RC_td hR hS hn, q]
    · rw [if_neg q]
      have td : tdD s = -1 ∨ (0 ≤ tdD s ∧ tdD s < s 11 0 0) := by
        rcases fnd_cases (P := hdS s (tdR s)) (s 11 0 0).toNat with ⟨e, -⟩ | ⟨e1, e2, -⟩
        · exact Or.inl e
        · exact Or.inr ⟨e1, by unfold tdD; omega⟩
      have td2 := td.resolve_left (by rw [← br]; exact q)
      have gg : ∀ ad s, RC h x ad s → SI s → (0 ≤ tdD s ∧ tdD s < s 11 0 0) ∧ mkH h (h 900 x 0) (h 903 x 0) n 14 (mkH h (h 900 x 0) (h 903 x 0) n 906 x 0) (hdF (mkH h (h 900 x 0) (h 903 x 0) n) x) = ad 20 (tdD s) 0 ∧ 0 < ad 20 (tdD s) 0 ∧ mkH h (h 900 x 0) (h 903 x 0) n 0 (ad 20 (tdD s) 0) 0 = 22 ∧ mkH h (h 900 x 0) (h 903 x 0) n 300 (ad 20 (tdD s) 0) 0 = tdD s := fun ad s hR hS => by
        have e := RC_td hR hS hn
        have td : tdD s = -1 ∨ (0 ≤ tdD s ∧ tdD s < s 11 0 0) := by
          rcases fnd_cases (P := hdS s (tdR s)) (s 11 0 0).toNat with ⟨e, -⟩ | ⟨e1, e2, -⟩
          · exact Or.inl e
          · exact Or.inr ⟨e1, by unfold tdD; omega⟩
        have td2 := td.resolve_left (by rw [← e]; exact q)
        have hM := RC_mk (set := h 903 x 0) (n := n) hR
        obtain ⟨x1, x2, x3, x4, -⟩ := hM.2.2.2.2.2.2.1 _ td2.1 td2.2
        rw [e, hM.2.1.2.2.2.2.2.1]
        exact ⟨td2, x2, x1, x3, x4⟩
      obtain ⟨y1, y2, y3, y4, y5⟩ := gg ad s hR hS
      refine ⟨fun e => by omega, fun _ => ⟨by rw [y2]; exact y4, ?_⟩⟩
      intro ad s hR hS
      obtain ⟨y1, y2, y3, y4, y5⟩ := gg ad s hR hS
      have := (RC_90 hR).1
      refine ⟨rfl, ?_, okS_mk hR⟩
      rw [vlToday, if_pos ⟨by omega, (RC_td0 hR hn).mp c1⟩, y2, y5]
  · simp only [ac_ent, ldI, ldR, stI, stR, inc, cI, cJ, cN, bop, oAdd, oSub, oMul, oAnd, oOr, oXor, oShl, oShr, oUshr, oRem, oDiv, oMx, oMn, oI2l, oLcmp, oDup, oDup2, oDupX1, oPop, bIc, bI0, bNul, getI, getR, putI, putZ, putR, aLen, aldI, aldZ, aldJ, aldR, astI, astZ, astJ, astR, nwO, nwA, gsT, oObj, oCpy, oCln, oCst, rtI, rtZ, rtR, rtV, thr, call, callH, ac_hsel, ac_as, ac_rs, ac_cs, ac_rcv, List.map_cons, List.map_nil, List.length_cons, List.length_nil, List.replicate, List.append_nil, List.cons_append, List.nil_append, List.getElem?_cons_zero, List.getElem?_cons_succ, List.set, Nat.zero_add, Nat.add_zero, Nat.le_refl, Nat.reduceAdd, Nat.reduceSub, Nat.reduceLeDiff, Int.reduceLT, Int.reduceLE, Int.reduceNeg, Int.reduceEq, true_and, and_true, true_or, or_true, not_true_eq_false, not_false_eq_true, false_implies, true_implies, implies_true, reduceIte, and_self, Int.reduceAdd, Int.reduceMul, Int.reduceSub, eq_self, Int.add_zero, Int.zero_add, String.reduceEq, Nat.zero_le, Option.some.injEq, Sum.inl.injEq, Sum.inr.injEq, reduceCtorEq, Int.reduceToNat, Option.toList_some, Option.toList_none, ac_cs, ac_c10, ac_c11, ac_c12, ac_c13, ac_c14, ac_c15, ac_c16, ac_c17, sc_E, sh_E, sc_I, sh_I, sc_II, sh_II, sc_III, sh_III, sc_R, sh_R, sc_RI, sh_RI, sc_RII, sh_RII, sc_RIII, sh_RIII, sc_RIIII, sh_RIIII, sc_RR, sh_RR, sc_RRI, sh_RRI, sc_RRR, sh_RRR, sc_RIR, sh_RIR, sc_RIRI, sh_RIRI, sc_RRII, sh_RRII, sc_RRIII, sh_RRIII, sc_RIIRR, sh_RIIRR, sc_RIIIRR, sh_RIIIRR, sc_RIIR, sh_RIIR, sc_RRIIR, sh_RRIIR, sc_RRIIIR, sh_RRIIIR, sc_RRIIIIR, sh_RRIIIIR, sc_RRIR, sh_RRIR]
    intro ad s hR hS
    exact ⟨rfl, by rw [vlToday, if_neg (fun q => c1 ((RC_td0 hR hn).mpr q.2))], okS_or hR⟩
theorem clp_r {lo hi v : Int} (h : lo ≤ hi) : lo ≤ clp lo hi v ∧ clp lo hi v ≤ hi := by
  unfold clp
  repeat' split
  all_goals omega
theorem tbz_0 : ∀ j : Int, 0 ≤ j → j < 6 → ac_tbz 1 j ≤ ac_tbz 0 j ∧ ac_tbz 0 j ≤ ac_tbz 2 j := by
  intro j h0 h1
  have : j = 0 ∨ j = 1 ∨ j = 2 ∨ j = 3 ∨ j = 4 ∨ j = 5 := by omega
  rcases this with rfl | rfl | rfl | rfl | rfl | rfl <;> decide
theorem apn_r {cr cs cn : Int → Int} {R : Int → Int} (hR : ∀ j, 0 ≤ j → j < 6 → ac_tbz 1 j ≤ R j ∧ R j ≤ ac_tbz 2 j) : ∀ (n : Nat) (j : Int), 0 ≤ j → j < 6 → ac_tbz 1 j ≤ apn cr cs cn n R j ∧ apn cr cs cn n R j ≤ ac_tbz 2 j
  | 0, j, a, b => hR j a b
  | n + 1, j, a, b => by
    simp only [apn, apr, fu]
    split
    · rename_i e
      rw [← e]
      exact clp_r (tbz_le j a b)
    · exact apn_r hR n j a b
theorem rlS_r {cr cs cn : Int → Int → Int} {sz od : Int → Int} : ∀ (n : Nat) (j : Int), 0 ≤ j → j < 6 → ac_tbz 1 j ≤ rlS cr cs cn sz od n j ∧ rlS cr cs cn sz od n j ≤ ac_tbz 2 j
  | 0, j, a, b => tbz_0 j a b
  | n + 1, j, a, b => apn_r (fun j a b => rlS_r n j a b) _ j a b
theorem tdR_r (s : sS) : (0 ≤ tdR s 0 ∧ tdR s 0 ≤ 20) ∧ (0 ≤ tdR s 1 ∧ tdR s 1 ≤ 20) ∧ (1 ≤ tdR s 2 ∧ tdR s 2 ≤ 9) ∧ (0 ≤ tdR s 3 ∧ tdR s 3 ≤ 20) ∧ (1 ≤ tdR s 4 ∧ tdR s 4 ≤ 50) ∧ (0 ≤ tdR s 5 ∧ tdR s 5 ≤ 9) := by
  have r := fun j a b => rlS_r (cr := s 2) (cs := s 3) (cn := s 4) (sz := fun p => s 1 p 0) (od := fun j => orS s (s 8 0 0) j.toNat) (onS s (s 8 0 0)) j a b
  exact ⟨r 0 (by omega) (by omega), r 1 (by omega) (by omega), r 2 (by omega) (by omega), r 3 (by omega) (by omega), r 4 (by omega) (by omega), r 5 (by omega) (by omega)⟩
