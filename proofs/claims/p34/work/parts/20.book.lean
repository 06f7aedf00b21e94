/-! ===== Pack.addChange, PackBook ===== -/
def spX4_addChange : ac_Sp := sc_RIII (fun p r s n h => 0 < p ∧ h 0 p 0 = 24 ∧ 0 ≤ h 501 p 0 ∧ h 501 p 0 ≤ 4 ∧ h 0 (h 500 p 0) 0 = 13 ∧ h 1 (h 500 p 0) 0 = 4 ∧ (s = 0 ∨ s = 1)) (fun p r s n h v h' => (4 ≤ h 501 p 0 → h' = h ∧ v = some (.inl 0)) ∧ (h 501 p 0 < 4 → v = some (.inl 1) ∧ ∃ c, ac_new h c ∧ h' = up (up (up (up (up (up h 0 c 0 20) 100 c 0 r) 101 c 0 s) 102 c 0 n) 13 (h 500 p 0) (h 501 p 0) c) 501 p 0 (h 501 p 0 + 1))) (fun _ _ _ _ _ _ _ => False)
set_option maxRecDepth 100000 in
set_option maxHeartbeats 4000000 in
theorem mtX4_addChange {G : ac_G} {l : Launch} : ac_Met G l yX4_addChange mX4_addChange 2 43 1 3 spX4_addChange := by
  refine ac_meth1 (pcs := pcX4_addChange) (B := fun P X J j => vcX4_addChange spX0_init P X J j) (by decide) rfl rfl rfl (fun P X J hJ j => sdX4_addChange mtX0_init hvX0_init P X J hJ j) (hp_RIII (by decide)) fun As h hp => ?_
  obtain ⟨p, r, s, n, rfl, hp⟩ := sh_RIII_inv hp
  simp only [spX4_addChange, vcX4_addChange, mX4_addChange, spX0_init, sc_RIII, sh_RIII, ac_ent, ldI, ldR, stI, stR, inc, cI, cJ, cN, bop, oAdd, oSub, oMul, oAnd, oOr, oXor, oShl, oShr, oUshr, oRem, oDiv, oMx, oMn, oI2l, oLcmp, oDup, oDup2, oDupX1, oPop, bIc, bI0, bNul, getI, getR, putI, putZ, putR, aLen, aldI, aldZ, aldJ, aldR, astI, astZ, astJ, astR, nwO, nwA, gsT, oObj, oCpy, oCln, oCst, rtI, rtZ, rtR, rtV, thr, call, callH, ac_hsel, ac_as, ac_rs, ac_cs, ac_rcv, List.map_cons, List.map_nil, List.length_cons, List.length_nil, List.replicate, List.append_nil, List.cons_append, List.nil_append, List.getElem?_cons_zero, List.getElem?_cons_succ, List.set, Nat.zero_add, Nat.add_zero, Nat.le_refl, Nat.reduceAdd, Nat.reduceSub, Nat.reduceLeDiff, Int.reduceLT, Int.reduceLE, Int.reduceNeg, Int.reduceEq, true_and, and_true, true_or, or_true, not_true_eq_false, not_false_eq_true, false_implies, true_implies, implies_true, reduceIte, and_self, Int.reduceAdd, Int.reduceMul, Int.reduceSub, eq_self, Int.add_zero, Int.zero_add, String.reduceEq, Nat.zero_le, Option.some.injEq, Sum.inl.injEq, Sum.inr.injEq, reduceCtorEq, Int.reduceToNat, Option.toList_some, Option.toList_none, ac_cs, ac_c10, ac_c11, ac_c12, ac_c13, ac_c14, ac_c15, ac_c16, ac_c17, sc_E, sh_E, sc_I, sh_I, sc_II, sh_II, sc_III, sh_III, sc_R, sh_R, sc_RI, sh_RI, sc_RII, sh_RII, sc_RIII, sh_RIII, sc_RIIII, sh_RIIII, sc_RR, sh_RR, sc_RRI, sh_RRI, sc_RRR, sh_RRR, sc_RIR, sh_RIR, sc_RIRI, sh_RIRI, sc_RRII, sh_RRII, sc_RRIII, sh_RRIII, sc_RIIRR, sh_RIIRR, sc_RIIIRR, sh_RIIIRR, sc_RIIR, sh_RIIR, sc_RRIIR, sh_RRIIR, sc_RRIIIR, sh_RRIIIR, sc_RRIIIIR, sh_RRIIIIR, sc_RRIR, sh_RRIR]
  obtain ⟨h0, h1, h2, h3, h4, h5, h6⟩ := hp
  simp only [h1, h4, h5, ac_ent, ldI, ldR, stI, stR, inc, cI, cJ, cN, bop, oAdd, oSub, oMul, oAnd, oOr, oXor, oShl, oShr, oUshr, oRem, oDiv, oMx, oMn, oI2l, oLcmp, oDup, oDup2, oDupX1, oPop, bIc, bI0, bNul, getI, getR, putI, putZ, putR, aLen, aldI, aldZ, aldJ, aldR, astI, astZ, astJ, astR, nwO, nwA, gsT, oObj, oCpy, oCln, oCst, rtI, rtZ, rtR, rtV, thr, call, callH, ac_hsel, ac_as, ac_rs, ac_cs, ac_rcv, List.map_cons, List.map_nil, List.length_cons, List.length_nil, List.replicate, List.append_nil, List.cons_append, List.nil_append, List.getElem?_cons_zero, List.getElem?_cons_succ, List.set, Nat.zero_add, Nat.add_zero, Nat.le_refl, Nat.reduceAdd, Nat.reduceSub, Nat.reduceLeDiff, Int.reduceLT, Int.reduceLE, Int.reduceNeg, Int.reduceEq, true_and, and_true, true_or, or_true, not_true_eq_false, not_false_eq_true, false_implies, true_implies, implies_true, reduceIte, and_self, Int.reduceAdd, Int.reduceMul, Int.reduceSub, eq_self, Int.add_zero, Int.zero_add, String.reduceEq, Nat.zero_le, Option.some.injEq, Sum.inl.injEq, Sum.inr.injEq, reduceCtorEq, Int.reduceToNat, Option.toList_some, Option.toList_none, ac_cs, ac_c10, ac_c11, ac_c12, ac_c13, ac_c14, ac_c15, ac_c16, ac_c17, sc_E, sh_E, sc_I, sh_I, sc_II, sh_II, sc_III, sh_III, sc_R, sh_R, sc_RI, sh_RI, sc_RII, sh_RII, sc_RIII, sh_RIII, sc_RIIII, sh_RIIII, sc_RR, sh_RR, sc_RRI, sh_RRI, sc_RRR, sh_RRR, sc_RIR, sh_RIR, sc_RIRI, sh_RIRI, sc_RRII, sh_RRII, sc_RRIII, sh_RRIII, sc_RIIRR, sh_RIIRR, sc_RIIIRR, sh_RIIIRR, sc_RIIR, sh_RIIR, sc_RRIIR, sh_RRIIR, sc_RRIIIR, sh_RRIIIR, sc_RRIIIIR, sh_RRIIIIR, sc_RRIR, sh_RRIR]
  refine ⟨fun q => ?_, fun q => ?_⟩
  · intro c hc
    have e1 : p ≠ c := new_ne hc (by rw [h1]; decide)
    have e2 : h 500 p 0 ≠ c := new_ne hc (by rw [h4]; decide)
    simp only [up_k, up_self, ne_eq, Nat.reduceEqDiff, not_false_eq_true, ac_ent, ldI, ldR, stI, stR, inc, cI, cJ, cN, bop, oAdd, oSub, oMul, oAnd, oOr, oXor, oShl, oShr, oUshr, oRem, oDiv, oMx, oMn, oI2l, oLcmp, oDup, oDup2, oDupX1, oPop, bIc, bI0, bNul, getI, getR, putI, putZ, putR, aLen, aldI, aldZ, aldJ, aldR, astI, astZ, astJ, astR, nwO, nwA, gsT, oObj, oCpy, oCln, oCst, rtI, rtZ, rtR, rtV, thr, call, callH, ac_hsel, ac_as, ac_rs, ac_cs, ac_rcv, List.map_cons, List.map_nil, List.length_cons, List.length_nil, List.replicate, List.append_nil, List.cons_append, List.nil_append, List.getElem?_cons_zero, List.getElem?_cons_succ, List.set, Nat.zero_add, Nat.add_zero, Nat.le_refl, Nat.reduceAdd, Nat.reduceSub, Nat.reduceLeDiff, Int.reduceLT, Int.reduceLE, Int.reduceNeg, Int.reduceEq, true_and, and_true, true_or, or_true, not_true_eq_false, not_false_eq_true, false_implies, true_implies, implies_true, reduceIte, and_self, Int.reduceAdd, Int.reduceMul, Int.reduceSub, eq_self, Int.add_zero, Int.zero_add, String.reduceEq, Nat.zero_le, Option.some.injEq, Sum.inl.injEq, Sum.inr.injEq, reduceCtorEq, Int.reduceToNat, Option.toList_some, Option.toList_none, ac_cs, ac_c10, ac_c11, ac_c12, ac_c13, ac_c14, ac_c15, ac_c16, ac_c17, sc_E, sh_E, sc_I, sh_I, sc_II, sh_II, sc_III, sh_III, sc_R, sh_R, sc_RI, sh_RI, sc_RII, sh_RII, sc_RIII, sh_RIII, sc_RIIII, sh_RIIII, sc_RR, sh_RR, sc_RRI, sh_RRI, sc_RRR, sh_RRR, sc_RIR, sh_RIR, sc_RIRI, sh_RIRI, sc_RRII, sh_RRII, sc_RRIII, sh_RRIII, sc_RIIRR, sh_RIIRR, sc_RIIIRR, sh_RIIIRR, sc_RIIR, sh_RIIR, sc_RRIIR, sh_RRIIR, sc_RRIIIR, sh_RRIIIR, sc_RRIIIIR, sh_RRIIIIR, sc_RRIR, sh_RRIR]
    refine ⟨⟨hc.1, h6⟩, ?_⟩
    rintro v h' ⟨rfl, rfl⟩
    have e3 : ¬ c = p := fun e => e1 e.symm
    have e4 : ¬ c = h 500 p 0 := fun e => e2 e.symm
    simp only [Option.toList_none, ac_ent, ldI, ldR, stI, stR, inc, cI, cJ, cN, bop, oAdd, oSub, oMul, oAnd, oOr, oXor, oShl, oShr, oUshr, oRem, oDiv, oMx, oMn, oI2l, oLcmp, oDup, oDup2, oDupX1, oPop, bIc, bI0, bNul, getI, getR, putI, putZ, putR, aLen, aldI, aldZ, aldJ, aldR, astI, astZ, astJ, astR, nwO, nwA, gsT, oObj, oCpy, oCln, oCst, rtI, rtZ, rtR, rtV, thr, call, callH, ac_hsel, ac_as, ac_rs, ac_cs, ac_rcv, List.map_cons, List.map_nil, List.length_cons, List.length_nil, List.replicate, List.append_nil, List.cons_append, List.nil_append, List.getElem?_cons_zero, List.getElem?_cons_succ, List.set, Nat.zero_add, Nat.add_zero, Nat.le_refl, Nat.reduceAdd, Nat.reduceSub, Nat.reduceLeDiff, Int.reduceLT, Int.reduceLE, Int.reduceNeg, Int.reduceEq, true_and, and_true, true_or, or_true, not_true_eq_false, not_false_eq_true, false_implies, true_implies, implies_true, reduceIte, and_self, Int.reduceAdd, Int.reduceMul, Int.reduceSub, eq_self, Int.add_zero, Int.zero_add, String.reduceEq, Nat.zero_le, Option.some.injEq, Sum.inl.injEq, Sum.inr.injEq, reduceCtorEq, Int.reduceToNat, Option.toList_some, Option.toList_none, ac_cs, ac_c10, ac_c11, ac_c12, ac_c13, ac_c14, ac_c15, ac_c16, ac_c17, sc_E, sh_E, sc_I, sh_I, sc_II, sh_II, sc_III, sh_III, sc_R, sh_R, sc_RI, sh_RI, sc_RII, sh_RII, sc_RIII, sh_RIII, sc_RIIII, sh_RIIII, sc_RR, sh_RR, sc_RRI, sh_RRI, sc_RRR, sh_RRR, sc_RIR, sh_RIR, sc_RIRI, sh_RIRI, sc_RRII, sh_RRII, sc_RRIII, sh_RRIII, sc_RIIRR, sh_RIIRR, sc_RIIIRR, sh_RIIIRR, sc_RIIR, sh_RIIR, sc_RRIIR, sh_RRIIR, sc_RRIIIR, sh_RRIIIR, sc_RRIIIIR, sh_RRIIIIR, sc_RRIR, sh_RRIR]
    refine ⟨⟨by simp [up, e2, h4], h2, by simp [up, e2, h5, q], by simp [up]⟩, by simp [up, e1, h1], by simp [up, e1, h1], ?_, ?_⟩
    · intro q2; omega
    · intro _
      refine ⟨c, hc, ?_⟩
      rw [wr_of (by simp [up, e1]; omega) (by simp [up, e1]; omega)]
      simp [up_k, up_self]
  · intro q2; omega
/-- the book's cells: its packs, its rows -/
def pk (h : ac_H) (b i : Int) : Int := h 16 (h 600 b 0) i
def PBk (h : ac_H) (b : Int) : Prop := h 0 b 0 = 25 ∧ 0 ≤ h 601 b 0 ∧ h 601 b 0 ≤ 10 ∧ h 0 (h 600 b 0) 0 = 16 ∧ h 1 (h 600 b 0) 0 = 10 ∧ h 0 (h 602 b 0) 0 = 10 ∧ h 1 (h 602 b 0) 0 = 10 ∧ h 0 (h 604 b 0) 0 = 10 ∧ h 1 (h 604 b 0) 0 = 6 ∧ h 602 b 0 ≠ h 604 b 0 ∧ ∀ i, 0 ≤ i → i < h 601 b 0 → 0 < pk h b i ∧ PKk h (pk h b i)
/-- the lowest pack of the waiting ones that is ready -/
def nx (nd : Int → Int) (c w st : Int) : Int := fnd (fun i => decide (¬ bt w i = 0 ∧ iand (nd i) (ixor st (-1)) = 0)) c.toNat
def pnd (h : ac_H) (b i : Int) : Int := h 502 (pk h b i) 0
def spX5_lowestReady : ac_Sp := sc_RII (fun b w st h => PBk h b) (fun b w st h v h' => h' = h ∧ v = some (.inl (nx (pnd h b) (h 601 b 0) w st))) (fun _ _ _ _ _ _ => False)
def ivX5_lowestReady (b w st : Int) (h : ac_H) : Nat → Nat → ac_S := fun j m => match j with
  | 0 => fun L S g k n => m = 19 ∧ ent0 [some (.inr (.inl b)), some (.inl w), some (.inl st), none, none] h L S g k n
  | 1 => fun L S g k n => ∃ (i : Int) (x : Option ac_V), 0 ≤ i ∧ i ≤ h 601 b 0 ∧ (m : Int) = 10 - i ∧ (∀ j, 0 ≤ j → j < i → ¬ (¬ bt w j = 0 ∧ iand (pnd h b j) (ixor st (-1)) = 0)) ∧ L = [some (.inr (.inl b)), some (.inl w), some (.inl st), some (.inl i), x] ∧ S = [] ∧ g = h ∧ k = 0 ∧ n = 0
  | _ => fun _ _ _ _ _ => False
set_option maxRecDepth 100000 in
set_option maxHeartbeats 4000000 in
theorem mtX5_lowestReady {G : ac_G} {l : Launch} : ac_Met G l yX5_lowestReady mX5_lowestReady 1 21 0 0 spX5_lowestReady := by
  refine ac_meth (pcs := pcX5_lowestReady) (B := fun P X J j => vcX5_lowestReady spX8_holds P X J j) (by decide) rfl rfl rfl (fun P X J hJ j => sdX5_lowestReady mtX8_holds P X J hJ j) (hp_RII (by decide)) fun As h hp => ?_
  obtain ⟨b, w, st, rfl, hp⟩ := sh_RII_inv hp
  obtain ⟨h1, h2, h3, h4, h5, h6, h7, h8, h9, h10, h11⟩ := hp
  refine ⟨ivX5_lowestReady b w st h, 19, ⟨rfl, rfl, rfl, rfl, rfl, rfl⟩, fun j m L S g k n hI => ?_⟩
  match j, hI with
  | 0, hI =>
    obtain ⟨hm, rfl, rfl, rfl, rfl, rfl⟩ := hI
    simp only [spX5_lowestReady, vcX5_lowestReady, mX5_lowestReady, spX8_holds, ac_ent, ldI, ldR, stI, stR, inc, cI, cJ, cN, bop, oAdd, oSub, oMul, oAnd, oOr, oXor, oShl, oShr, oUshr, oRem, oDiv, oMx, oMn, oI2l, oLcmp, oDup, oDup2, oDupX1, oPop, bIc, bI0, bNul, getI, getR, putI, putZ, putR, aLen, aldI, aldZ, aldJ, aldR, astI, astZ, astJ, astR, nwO, nwA, gsT, oObj, oCpy, oCln, oCst, rtI, rtZ, rtR, rtV, thr, call, callH, ac_hsel, ac_as, ac_rs, ac_cs, ac_rcv, List.map_cons, List.map_nil, List.length_cons, List.length_nil, List.replicate, List.append_nil, List.cons_append, List.nil_append, List.getElem?_cons_zero, List.getElem?_cons_succ, List.set, Nat.zero_add, Nat.add_zero, Nat.le_refl, Nat.reduceAdd, Nat.reduceSub, Nat.reduceLeDiff, Int.reduceLT, Int.reduceLE, Int.reduceNeg, Int.reduceEq, true_and, and_true, true_or, or_true, not_true_eq_false, not_false_eq_true, false_implies, true_implies, implies_true, reduceIte, and_self, Int.reduceAdd, Int.reduceMul, Int.reduceSub, eq_self, Int.add_zero, Int.zero_add, String.reduceEq, Nat.zero_le, Option.some.injEq, Sum.inl.injEq, Sum.inr.injEq, reduceCtorEq, Int.reduceToNat, Option.toList_some, Option.toList_none, ac_cs, ac_c10, ac_c11, ac_c12, ac_c13, ac_c14, ac_c15, ac_c16, ac_c17, sc_E, sh_E, sc_I, sh_I, sc_II, sh_II, sc_III, sh_III, sc_R, sh_R, sc_RI, sh_RI, sc_RII, sh_RII, sc_RIII, sh_RIII, sc_RIIII, sh_RIIII, sc_RR, sh_RR, sc_RRI, sh_RRI, sc_RRR, sh_RRR, sc_RIR, sh_RIR, sc_RIRI, sh_RIRI, sc_RRII, sh_RRII, sc_RRIII, sh_RRIII, sc_RIIRR, sh_RIIRR, sc_RIIIRR, sh_RIIIRR, sc_RIIR, sh_RIIR, sc_RRIIR, sh_RRIIR, sc_RRIIIR, sh_RRIIIR, sc_RRIIIIR, sh_RRIIIIR, sc_RRIR, sh_RRIR]
    exact ⟨10, by omega, 0, none, by omega, by omega, by omega, (fun j a b => by omega), rfl, rfl, rfl, rfl, rfl⟩
  | 1, hI =>
    obtain ⟨i, x, i0, i1, hm, hi, rfl, rfl, rfl, rfl, rfl⟩ := hI
    have nxt : ∀ z, (bt w i = 0 ∨ ¬ iand (pnd g b i) (ixor st (-1)) = 0) → ∃ m', m' < m ∧ ivX5_lowestReady b w st g 1 m' [some (.inr (.inl b)), some (.inl w), some (.inl st), some (.inl (wr (i + 1))), z] [] g 0 0 ∨ g 601 b 0 ≤ i := by
      intro z hz
      by_cases q : g 601 b 0 ≤ i
      · exact ⟨0, Or.inr q⟩
      refine ⟨(9 - i).toNat, Or.inl ⟨by omega, i + 1, z, by omega, by omega, by omega, fun j j0 j1 => ?_, by rw [wr_of (by omega) (by omega)], rfl, rfl, rfl, rfl⟩⟩
      by_cases e : j = i
      · subst e; rintro ⟨a1, a2⟩; rcases hz with hz | hz <;> contradiction
      · exact hi j j0 (by omega)
    simp only [spX5_lowestReady, vcX5_lowestReady, mX5_lowestReady, spX8_holds, ac_ent, ldI, ldR, stI, stR, inc, cI, cJ, cN, bop, oAdd, oSub, oMul, oAnd, oOr, oXor, oShl, oShr, oUshr, oRem, oDiv, oMx, oMn, oI2l, oLcmp, oDup, oDup2, oDupX1, oPop, bIc, bI0, bNul, getI, getR, putI, putZ, putR, aLen, aldI, aldZ, aldJ, aldR, astI, astZ, astJ, astR, nwO, nwA, gsT, oObj, oCpy, oCln, oCst, rtI, rtZ, rtR, rtV, thr, call, callH, ac_hsel, ac_as, ac_rs, ac_cs, ac_rcv, List.map_cons, List.map_nil, List.length_cons, List.length_nil, List.replicate, List.append_nil, List.cons_append, List.nil_append, List.getElem?_cons_zero, List.getElem?_cons_succ, List.set, Nat.zero_add, Nat.add_zero, Nat.le_refl, Nat.reduceAdd, Nat.reduceSub, Nat.reduceLeDiff, Int.reduceLT, Int.reduceLE, Int.reduceNeg, Int.reduceEq, true_and, and_true, true_or, or_true, not_true_eq_false, not_false_eq_true, false_implies, true_implies, implies_true, reduceIte, and_self, Int.reduceAdd, Int.reduceMul, Int.reduceSub, eq_self, Int.add_zero, Int.zero_add, String.reduceEq, Nat.zero_le, Option.some.injEq, Sum.inl.injEq, Sum.inr.injEq, reduceCtorEq, Int.reduceToNat, Option.toList_some, Option.toList_none, ac_cs, ac_c10, ac_c11, ac_c12, ac_c13, ac_c14, ac_c15, ac_c16, ac_c17, sc_E, sh_E, sc_I, sh_I, sc_II, sh_II, sc_III, sh_III, sc_R, sh_R, sc_RI, sh_RI, sc_RII, sh_RII, sc_RIII, sh_RIII, sc_RIIII, sh_RIIII, sc_RR, sh_RR, sc_RRI, sh_RRI, sc_RRR, sh_RRR, sc_RIR, sh_RIR, sc_RIRI, sh_RIRI, sc_RRII, sh_RRII, sc_RRIII, sh_RRIII, sc_RIIRR, sh_RIIRR, sc_RIIIRR, sh_RIIIRR, sc_RIIR, sh_RIIR, sc_RRIIR, sh_RRIIR, sc_RRIIIR, sh_RRIIIR, sc_RRIIIIR, sh_RRIIIIR, sc_RRIR, sh_RRIR, h1, h4, h5]
    refine ⟨fun q => ?_, fun q => ?_⟩
    · rw [nx, fnd_none]
      intro j j0 j1
      have := hi j j0 (by omega)
      simpa using this
    obtain ⟨c0, c1, c2, c3, c4⟩ := h11 i i0 (by omega)
    have c5 : g 16 (g 600 b 0) i ≠ 0 := by unfold pk at c0; omega
    have c6 : g 0 (g 16 (g 600 b 0) i) 0 = 24 := c1
    simp only [c5, ac_ent, ldI, ldR, stI, stR, inc, cI, cJ, cN, bop, oAdd, oSub, oMul, oAnd, oOr, oXor, oShl, oShr, oUshr, oRem, oDiv, oMx, oMn, oI2l, oLcmp, oDup, oDup2, oDupX1, oPop, bIc, bI0, bNul, getI, getR, putI, putZ, putR, aLen, aldI, aldZ, aldJ, aldR, astI, astZ, astJ, astR, nwO, nwA, gsT, oObj, oCpy, oCln, oCst, rtI, rtZ, rtR, rtV, thr, call, callH, ac_hsel, ac_as, ac_rs, ac_cs, ac_rcv, List.map_cons, List.map_nil, List.length_cons, List.length_nil, List.replicate, List.append_nil, List.cons_append, List.nil_append, List.getElem?_cons_zero, List.getElem?_cons_succ, List.set, Nat.zero_add, Nat.add_zero, Nat.le_refl, Nat.reduceAdd, Nat.reduceSub, Nat.reduceLeDiff, Int.reduceLT, Int.reduceLE, Int.reduceNeg, Int.reduceEq, true_and, and_true, true_or, or_true, not_true_eq_false, not_false_eq_true, false_implies, true_implies, implies_true, reduceIte, and_self, Int.reduceAdd, Int.reduceMul, Int.reduceSub, eq_self, Int.add_zero, Int.zero_add, String.reduceEq, Nat.zero_le, Option.some.injEq, Sum.inl.injEq, Sum.inr.injEq, reduceCtorEq, Int.reduceToNat, Option.toList_some, Option.toList_none, ac_cs, ac_c10, ac_c11, ac_c12, ac_c13, ac_c14, ac_c15, ac_c16, ac_c17, sc_E, sh_E, sc_I, sh_I, sc_II, sh_II, sc_III, sh_III, sc_R, sh_R, sc_RI, sh_RI, sc_RII, sh_RII, sc_RIII, sh_RIII, sc_RIIII, sh_RIIII, sc_RR, sh_RR, sc_RRI, sh_RRI, sc_RRR, sh_RRR, sc_RIR, sh_RIR, sc_RIRI, sh_RIRI, sc_RRII, sh_RRII, sc_RRIII, sh_RRIII, sc_RIIRR, sh_RIIRR, sc_RIIIRR, sh_RIIIRR, sc_RIIR, sh_RIIR, sc_RRIIR, sh_RRIIR, sc_RRIIIR, sh_RRIIIR, sc_RRIIIIR, sh_RRIIIIR, sc_RRIR, sh_RRIR]
    refine ⟨⟨i0, by omega⟩, ?_⟩
    rintro r h' ⟨rfl, rfl⟩
    simp only [c6, Option.toList_some, ac_ent, ldI, ldR, stI, stR, inc, cI, cJ, cN, bop, oAdd, oSub, oMul, oAnd, oOr, oXor, oShl, oShr, oUshr, oRem, oDiv, oMx, oMn, oI2l, oLcmp, oDup, oDup2, oDupX1, oPop, bIc, bI0, bNul, getI, getR, putI, putZ, putR, aLen, aldI, aldZ, aldJ, aldR, astI, astZ, astJ, astR, nwO, nwA, gsT, oObj, oCpy, oCln, oCst, rtI, rtZ, rtR, rtV, thr, call, callH, ac_hsel, ac_as, ac_rs, ac_cs, ac_rcv, List.map_cons, List.map_nil, List.length_cons, List.length_nil, List.replicate, List.append_nil, List.cons_append, List.nil_append, List.getElem?_cons_zero, List.getElem?_cons_succ, List.set, Nat.zero_add, Nat.add_zero, Nat.le_refl, Nat.reduceAdd, Nat.reduceSub, Nat.reduceLeDiff, Int.reduceLT, Int.reduceLE, Int.reduceNeg, Int.reduceEq, true_and, and_true, true_or, or_true, not_true_eq_false, not_false_eq_true, false_implies, true_implies, implies_true, reduceIte, and_self, Int.reduceAdd, Int.reduceMul, Int.reduceSub, eq_self, Int.add_zero, Int.zero_add, String.reduceEq, Nat.zero_le, Option.some.injEq, Sum.inl.injEq, Sum.inr.injEq, reduceCtorEq, Int.reduceToNat, Option.toList_some, Option.toList_none, ac_cs, ac_c10, ac_c11, ac_c12, ac_c13, ac_c14, ac_c15, ac_c16, ac_c17, sc_E, sh_E, sc_I, sh_I, sc_II, sh_II, sc_III, sh_III, sc_R, sh_R, sc_RI, sh_RI, sc_RII, sh_RII, sc_RIII, sh_RIII, sc_RIIII, sh_RIIII, sc_RR, sh_RR, sc_RRI, sh_RRI, sc_RRR, sh_RRR, sc_RIR, sh_RIR, sc_RIRI, sh_RIRI, sc_RRII, sh_RRII, sc_RRIII, sh_RRIII, sc_RIIRR, sh_RIIRR, sc_RIIIRR, sh_RIIIRR, sc_RIIR, sh_RIIR, sc_RRIIR, sh_RRIIR, sc_RRIIIR, sh_RRIIIR, sc_RRIIIIR, sh_RRIIIIR, sc_RRIR, sh_RRIR]
    refine ⟨fun e => ?_, fun e => ⟨fun e2 => ?_, fun e2 => ?_⟩⟩
    · obtain ⟨m', hm' | hm'⟩ := nxt (some (.inr (.inl (h' 16 (h' 600 b 0) i)))) (Or.inl (by simpa using e))
      · exact ⟨m', hm'⟩
      · exact absurd hm' q
    · refine (fnd_some i0 (by omega) ?_ fun j j0 j1 => ?_).symm
      · have e1 : ¬ bt w i = 0 := by simpa using e
        have e3 : iand (pnd h' b i) (ixor st (-1)) = 0 := e2
        simp [e1, e3]
      · have := hi j j0 (by omega)
        simpa using this
    · obtain ⟨m', hm' | hm'⟩ := nxt (some (.inr (.inl (h' 16 (h' 600 b 0) i)))) (Or.inr e2)
      · exact ⟨m', hm'⟩
      · exact absurd hm' q
  | j + 2, hI => exact hI.elim
/-- the order of a set: what stands, who comes next, the places -/
def stp (nd : Int → Int) (c set : Int) : Nat → Int
  | 0 => 0
  | n + 1 => ior (stp nd c set n) (ishl 1 (nx nd c (iand set (ixor (stp nd c set n) (-1))) (stp nd c set n)))
def ore (nd : Int → Int) (c set : Int) (n : Nat) : Int := nx nd c (iand set (ixor (stp nd c set n) (-1))) (stp nd c set n)
def orA (nd : Int → Int) (c set : Int) (f : Int → Int) : Nat → Int → Int
  | 0 => f
  | n + 1 => fu (orA nd c set f n) n (ore nd c set n)
/-- n packs stand in the order -/
def orN (nd : Int → Int) (c set : Int) (n : Nat) : Prop := n ≤ 10 ∧ (n = 10 ∨ ore nd c set n = -1) ∧ ∀ i, i < n → ore nd c set i ≠ -1
def orH (h : ac_H) (b set : Int) (n : Nat) : ac_H := up (ast h (h 602 b 0) (orA (pnd h b) (h 601 b 0) set (h 10 (h 602 b 0)) n)) 603 b 0 n
theorem orH_k {h : ac_H} {b set : Int} {n k : Nat} {a j : Int} (e1 : k ≠ 10) (e2 : k ≠ 603) : orH h b set n k a j = h k a j := by unfold orH; rw [up_k e2, ast_k e1]
theorem orH_step (h : ac_H) (b set : Int) (i : Nat) : up (up (orH h b set i) 10 (h 602 b 0) i (ore (pnd h b) (h 601 b 0) set i)) 603 b 0 ((i : Int) + 1) = orH h b set (i + 1) := by
  funext k a j
  simp only [orH, orA, up, ast, fu]
  by_cases e1 : k = 603
  · subst e1
    by_cases e2 : a = b ∧ j = 0
    · simp [e2]
    · simp [e2]
  · by_cases e2 : k = 10
    · subst e2
      by_cases e3 : a = h 602 b 0 <;> by_cases e4 : j = i <;> simp [e3, e4]
    · simp [e1, e2]
def spX5_putInOrder : ac_Sp := sc_RI (fun b set h => PBk h b) (fun b set h v h' => ∃ n, orN (pnd h b) (h 601 b 0) set n ∧ h' = orH h b set n ∧ v = some (.inl (if stp (pnd h b) (h 601 b 0) set n = set then 1 else 0))) (fun _ _ _ _ _ => False)
def ivX5_putInOrder (b set : Int) (h : ac_H) : Nat → Nat → ac_S := fun j m => match j with
  | 0 => fun L S g k n => m = 19 ∧ ent0 [some (.inr (.inl b)), some (.inl set), none, none, none] h L S g k n
  | 1 => fun L S g k n => ∃ (i : Nat) (x : Option ac_V), i ≤ 10 ∧ m = 10 - i ∧ (∀ j, j < i → ore (pnd h b) (h 601 b 0) set j ≠ -1) ∧ L = [some (.inr (.inl b)), some (.inl set), some (.inl (stp (pnd h b) (h 601 b 0) set i)), some (.inl i), x] ∧ S = [] ∧ g = orH h b set i ∧ k = 0 ∧ n = 0
  | _ => fun _ _ _ _ _ => False
set_option maxRecDepth 100000 in
set_option maxHeartbeats 4000000 in
theorem mtX5_putInOrder {G : ac_G} {l : Launch} : ac_Met G l yX5_putInOrder mX5_putInOrder 2 45 0 0 spX5_putInOrder := by
  refine ac_meth (pcs := pcX5_putInOrder) (B := fun P X J j => vcX5_putInOrder spX5_lowestReady P X J j) (by decide) rfl rfl rfl (fun P X J hJ j => sdX5_putInOrder mtX5_lowestReady P X J hJ j) (hp_RI (by decide)) fun As h hp => ?_
  obtain ⟨b, set, rfl, hp⟩ := sh_RI_inv hp
  have hb := hp
  obtain ⟨h1, h2, h3, h4, h5, h6, h7, h8, h9, h10, h11⟩ := hp
  refine ⟨ivX5_putInOrder b set h, 19, ⟨rfl, rfl, rfl, rfl, rfl, rfl⟩, fun j m L S g k n hI => ?_⟩
  match j, hI with
  | 0, hI =>
    obtain ⟨hm, rfl, rfl, rfl, rfl, rfl⟩ := hI
    simp only [spX5_putInOrder, vcX5_putInOrder, mX5_putInOrder, spX5_lowestReady, ac_ent, ldI, ldR, stI, stR, inc, cI, cJ, cN, bop, oAdd, oSub, oMul, oAnd, oOr, oXor, oShl, oShr, oUshr, oRem, oDiv, oMx, oMn, oI2l, oLcmp, oDup, oDup2, oDupX1, oPop, bIc, bI0, bNul, getI, getR, putI, putZ, putR, aLen, aldI, aldZ, aldJ, aldR, astI, astZ, astJ, astR, nwO, nwA, gsT, oObj, oCpy, oCln, oCst, rtI, rtZ, rtR, rtV, thr, call, callH, ac_hsel, ac_as, ac_rs, ac_cs, ac_rcv, List.map_cons, List.map_nil, List.length_cons, List.length_nil, List.replicate, List.append_nil, List.cons_append, List.nil_append, List.getElem?_cons_zero, List.getElem?_cons_succ, List.set, Nat.zero_add, Nat.add_zero, Nat.le_refl, Nat.reduceAdd, Nat.reduceSub, Nat.reduceLeDiff, Int.reduceLT, Int.reduceLE, Int.reduceNeg, Int.reduceEq, true_and, and_true, true_or, or_true, not_true_eq_false, not_false_eq_true, false_implies, true_implies, implies_true, reduceIte, and_self, Int.reduceAdd, Int.reduceMul, Int.reduceSub, eq_self, Int.add_zero, Int.zero_add, String.reduceEq, Nat.zero_le, Option.some.injEq, Sum.inl.injEq, Sum.inr.injEq, reduceCtorEq, Int.reduceToNat, Option.toList_some, Option.toList_none, ac_cs, ac_c10, ac_c11, ac_c12, ac_c13, ac_c14, ac_c15, ac_c16, ac_c17, sc_E, sh_E, sc_I, sh_I, sc_II, sh_II, sc_III, sh_III, sc_R, sh_R, sc_RI, sh_RI, sc_RII, sh_RII, sc_RIII, sh_RIII, sc_RIIII, sh_RIIII, sc_RR, sh_RR, sc_RRI, sh_RRI, sc_RRR, sh_RRR, sc_RIR, sh_RIR, sc_RIRI, sh_RIRI, sc_RRII, sh_RRII, sc_RRIII, sh_RRIII, sc_RIIRR, sh_RIIRR, sc_RIIIRR, sh_RIIIRR, sc_RIIR, sh_RIIR, sc_RRIIR, sh_RRIIR, sc_RRIIIR, sh_RRIIIR, sc_RRIIIIR, sh_RRIIIIR, sc_RRIR, sh_RRIR, h1]
    exact ⟨10, by omega, 0, none, by omega, by omega, by omega, rfl, rfl, by simp [orH, orA, ast_self], rfl, rfl⟩
  | 1, hI =>
    obtain ⟨i, x, i1, hm, hi, rfl, rfl, rfl, rfl, rfl⟩ := hI
    simp only [spX5_putInOrder, vcX5_putInOrder, mX5_putInOrder, spX5_lowestReady, ac_ent, ldI, ldR, stI, stR, inc, cI, cJ, cN, bop, oAdd, oSub, oMul, oAnd, oOr, oXor, oShl, oShr, oUshr, oRem, oDiv, oMx, oMn, oI2l, oLcmp, oDup, oDup2, oDupX1, oPop, bIc, bI0, bNul, getI, getR, putI, putZ, putR, aLen, aldI, aldZ, aldJ, aldR, astI, astZ, astJ, astR, nwO, nwA, gsT, oObj, oCpy, oCln, oCst, rtI, rtZ, rtR, rtV, thr, call, callH, ac_hsel, ac_as, ac_rs, ac_cs, ac_rcv, List.map_cons, List.map_nil, List.length_cons, List.length_nil, List.replicate, List.append_nil, List.cons_append, List.nil_append, List.getElem?_cons_zero, List.getElem?_cons_succ, List.set, Nat.zero_add, Nat.add_zero, Nat.le_refl, Nat.reduceAdd, Nat.reduceSub, Nat.reduceLeDiff, Int.reduceLT, Int.reduceLE, Int.reduceNeg, Int.reduceEq, true_and, and_true, true_or, or_true, not_true_eq_false, not_false_eq_true, false_implies, true_implies, implies_true, reduceIte, and_self, Int.reduceAdd, Int.reduceMul, Int.reduceSub, eq_self, Int.add_zero, Int.zero_add, String.reduceEq, Nat.zero_le, Option.some.injEq, Sum.inl.injEq, Sum.inr.injEq, reduceCtorEq, Int.reduceToNat, Option.toList_some, Option.toList_none, ac_cs, ac_c10, ac_c11, ac_c12, ac_c13, ac_c14, ac_c15, ac_c16, ac_c17, sc_E, sh_E, sc_I, sh_I, sc_II, sh_II, sc_III, sh_III, sc_R, sh_R, sc_RI, sh_RI, sc_RII, sh_RII, sc_RIII, sh_RIII, sc_RIIII, sh_RIIII, sc_RR, sh_RR, sc_RRI, sh_RRI, sc_RRR, sh_RRR, sc_RIR, sh_RIR, sc_RIRI, sh_RIRI, sc_RRII, sh_RRII, sc_RRIII, sh_RRIII, sc_RIIRR, sh_RIIRR, sc_RIIIRR, sh_RIIIRR, sc_RIIR, sh_RIIR, sc_RRIIR, sh_RRIIR, sc_RRIIIR, sh_RRIIIR, sc_RRIIIIR, sh_RRIIIIR, sc_RRIR, sh_RRIR, h1]
    have hb2 : PBk (orH h b set i) b := by
      simp only [PBk, PKk, pk, pcr, orH_k, ne_eq, Nat.reduceEqDiff, not_false_eq_true]
      exact hb
    have en : pnd (orH h b set i) b = pnd h b := by
      funext j
      simp only [pnd, pk, orH_k, ne_eq, Nat.reduceEqDiff, not_false_eq_true]
    simp only [hb2, en, orH_k, ne_eq, Nat.reduceEqDiff, not_false_eq_true, ac_ent, ldI, ldR, stI, stR, inc, cI, cJ, cN, bop, oAdd, oSub, oMul, oAnd, oOr, oXor, oShl, oShr, oUshr, oRem, oDiv, oMx, oMn, oI2l, oLcmp, oDup, oDup2, oDupX1, oPop, bIc, bI0, bNul, getI, getR, putI, putZ, putR, aLen, aldI, aldZ, aldJ, aldR, astI, astZ, astJ, astR, nwO, nwA, gsT, oObj, oCpy, oCln, oCst, rtI, rtZ, rtR, rtV, thr, call, callH, ac_hsel, ac_as, ac_rs, ac_cs, ac_rcv, List.map_cons, List.map_nil, List.length_cons, List.length_nil, List.replicate, List.append_nil, List.cons_append, List.nil_append, List.getElem?_cons_zero, List.getElem?_cons_succ, List.set, Nat.zero_add, Nat.add_zero, Nat.le_refl, Nat.reduceAdd, Nat.reduceSub, Nat.reduceLeDiff, Int.reduceLT, Int.reduceLE, Int.reduceNeg, Int.reduceEq, true_and, and_true, true_or, or_true, not_true_eq_false, not_false_eq_true, false_implies, true_implies, implies_true, reduceIte, and_self, Int.reduceAdd, Int.reduceMul, Int.reduceSub, eq_self, Int.add_zero, Int.zero_add, String.reduceEq, Nat.zero_le, Option.some.injEq, Sum.inl.injEq, Sum.inr.injEq, reduceCtorEq, Int.reduceToNat, Option.toList_some, Option.toList_none, ac_cs, ac_c10, ac_c11, ac_c12, ac_c13, ac_c14, ac_c15, ac_c16, ac_c17, sc_E, sh_E, sc_I, sh_I, sc_II, sh_II, sc_III, sh_III, sc_R, sh_R, sc_RI, sh_RI, sc_RII, sh_RII, sc_RIII, sh_RIII, sc_RIIII, sh_RIIII, sc_RR, sh_RR, sc_RRI, sh_RRI, sc_RRR, sh_RRR, sc_RIR, sh_RIR, sc_RIRI, sh_RIRI, sc_RRII, sh_RRII, sc_RRIII, sh_RRIII, sc_RIIRR, sh_RIIRR, sc_RIIIRR, sh_RIIIRR, sc_RIIR, sh_RIIR, sc_RRIIR, sh_RRIIR, sc_RRIIIR, sh_RRIIIR, sc_RRIIIIR, sh_RRIIIIR, sc_RRIR, sh_RRIR]
    have fin : (i = 10 ∨ ore (pnd h b) (h 601 b 0) set i = -1) → ∀ z : Int, z = (if stp (pnd h b) (h 601 b 0) set i = set then 1 else 0) → ∃ n, orN (pnd h b) (h 601 b 0) set n ∧ orH h b set i = orH h b set n ∧ z = if stp (pnd h b) (h 601 b 0) set n = set then 1 else 0 := fun a z hz => ⟨i, ⟨i1, a, hi⟩, rfl, hz⟩
    refine ⟨fun q => ⟨fun q2 => fin (Or.inl (by omega)) 1 (by rw [if_pos q2]), fun q2 => fin (Or.inl (by omega)) 0 (by rw [if_neg q2])⟩, fun q => ⟨h1, ?_⟩⟩
    rintro r h' ⟨rfl, rfl⟩
    simp only [Option.toList_some, orH_k, ne_eq, Nat.reduceEqDiff, not_false_eq_true, up_k, h6, h7, h1, ac_ent, ldI, ldR, stI, stR, inc, cI, cJ, cN, bop, oAdd, oSub, oMul, oAnd, oOr, oXor, oShl, oShr, oUshr, oRem, oDiv, oMx, oMn, oI2l, oLcmp, oDup, oDup2, oDupX1, oPop, bIc, bI0, bNul, getI, getR, putI, putZ, putR, aLen, aldI, aldZ, aldJ, aldR, astI, astZ, astJ, astR, nwO, nwA, gsT, oObj, oCpy, oCln, oCst, rtI, rtZ, rtR, rtV, thr, call, callH, ac_hsel, ac_as, ac_rs, ac_cs, ac_rcv, List.map_cons, List.map_nil, List.length_cons, List.length_nil, List.replicate, List.append_nil, List.cons_append, List.nil_append, List.getElem?_cons_zero, List.getElem?_cons_succ, List.set, Nat.zero_add, Nat.add_zero, Nat.le_refl, Nat.reduceAdd, Nat.reduceSub, Nat.reduceLeDiff, Int.reduceLT, Int.reduceLE, Int.reduceNeg, Int.reduceEq, true_and, and_true, true_or, or_true, not_true_eq_false, not_false_eq_true, false_implies, true_implies, implies_true, reduceIte, and_self, Int.reduceAdd, Int.reduceMul, Int.reduceSub, eq_self, Int.add_zero, Int.zero_add, String.reduceEq, Nat.zero_le, Option.some.injEq, Sum.inl.injEq, Sum.inr.injEq, reduceCtorEq, Int.reduceToNat, Option.toList_some, Option.toList_none, ac_cs, ac_c10, ac_c11, ac_c12, ac_c13, ac_c14, ac_c15, ac_c16, ac_c17, sc_E, sh_E, sc_I, sh_I, sc_II, sh_II, sc_III, sh_III, sc_R, sh_R, sc_RI, sh_RI, sc_RII, sh_RII, sc_RIII, sh_RIII, sc_RIIII, sh_RIIII, sc_RR, sh_RR, sc_RRI, sh_RRI, sc_RRR, sh_RRR, sc_RIR, sh_RIR, sc_RIRI, sh_RIRI, sc_RRII, sh_RRII, sc_RRIII, sh_RRIII, sc_RIIRR, sh_RIIRR, sc_RIIIRR, sh_RIIIRR, sc_RIIR, sh_RIIR, sc_RRIIR, sh_RRIIR, sc_RRIIIR, sh_RRIIIR, sc_RRIIIIR, sh_RRIIIIR, sc_RRIR, sh_RRIR]
    refine ⟨fun e => ⟨fun q2 => fin (Or.inr e) 1 (by rw [if_pos q2]), fun q2 => fin (Or.inr e) 0 (by rw [if_neg q2])⟩, fun e => ⟨⟨by omega, by omega⟩, 9 - i, by omega, i + 1, some (.inl (ore (pnd h b) (h 601 b 0) set i)), by omega, by omega, fun j hj => ?_, ?_, rfl, ?_, rfl, rfl⟩⟩
    · by_cases q3 : j = i
      · subst q3; exact e
      · exact hi j (by omega)
    · simp (disch := omega) only [wr_of]
      rfl
    · simp (disch := omega) only [wr_of]
      exact orH_step h b set i
  | j + 2, hI => exact hI.elim
/-- the rules of an order: the first ones, then each pack applied -/
def rlS (cr cs cn : Int → Int → Int) (sz ord : Int → Int) : Nat → Int → Int
  | 0 => ac_tbz 0
  | n + 1 => apn (cr (ord n)) (cs (ord n)) (cn (ord n)) (sz (ord n)).toNat (rlS cr cs cn sz ord n)
def pcR (h : ac_H) (b i j : Int) : Int := pcr h (pk h b i) j
def pcS (h : ac_H) (b i j : Int) : Int := pcs h (pk h b i) j
def pcN (h : ac_H) (b i j : Int) : Int := pcn h (pk h b i) j
def psz (h : ac_H) (b i : Int) : Int := h 501 (pk h b i) 0
def rlB (h : ac_H) (b : Int) (n : Nat) : Int → Int := rlS (pcR h b) (pcS h b) (pcN h b) (psz h b) (h 10 (h 602 b 0)) n
/-- row a holds six numbers R, whatever lay behind them -/
def six (f R : Int → Int) : Int → Int := fun j => if 0 ≤ j ∧ j < 6 then R j else f j
theorem six_apr {f R : Int → Int} {rl st nm : Int} (h0 : 0 ≤ rl) (h1 : rl < 6) : apr rl st nm (six f R) = six f (apr rl st nm R) := by
  funext j
  simp only [apr, six, fu]
  by_cases e : j = rl
  · simp [e, h0, h1]
  · simp [e]
theorem six_apn {f : Int → Int} {cr cs cn : Int → Int} : ∀ {n : Nat} {R : Int → Int}, (∀ i : Int, 0 ≤ i → i < n → 0 ≤ cr i ∧ cr i < 6) → apn cr cs cn n (six f R) = six f (apn cr cs cn n R)
  | 0, R, _ => rfl
  | n + 1, R, h => by
    obtain ⟨a, b⟩ := h n (by omega) (by omega)
    rw [apn, six_apn (fun i i0 i1 => h i i0 (by omega)), six_apr a b]
    rfl
def spX5_makeRules : ac_Sp := sc_R (fun b h => PBk h b ∧ 0 ≤ h 603 b 0 ∧ h 603 b 0 ≤ 10 ∧ ∀ i, 0 ≤ i → i < h 603 b 0 → 0 ≤ h 10 (h 602 b 0) i ∧ h 10 (h 602 b 0) i < h 601 b 0) (fun b h v h' => v = none ∧ h' = ast h (h 604 b 0) (six (h 10 (h 604 b 0)) (rlB h b (h 603 b 0).toNat))) (fun _ _ _ _ => False)
def ivX5_makeRules (b : Int) (h : ac_H) : Nat → Nat → ac_S := fun j m => match j with
  | 0 => fun L S g k n => m = 19 ∧ ent0 [some (.inr (.inl b)), none, none] h L S g k n
  | 1 => fun L S g k n => ∃ (i : Nat) (x : Option ac_V), (i : Int) ≤ h 603 b 0 ∧ m = 10 - i ∧ L = [some (.inr (.inl b)), some (.inl i), x] ∧ S = [] ∧ g = ast h (h 604 b 0) (six (h 10 (h 604 b 0)) (rlB h b i)) ∧ k = 0 ∧ n = 0
  | _ => fun _ _ _ _ _ => False
set_option maxRecDepth 100000 in
set_option maxHeartbeats 4000000 in
theorem mtX5_makeRules {G : ac_G} {l : Launch} : ac_Met G l yX5_makeRules mX5_makeRules 3 66 0 0 spX5_makeRules := by
  refine ac_meth (pcs := pcX5_makeRules) (B := fun P X J j => vcX5_makeRules spX5_packAt spX4_applyTo P X J j) (by decide) rfl rfl rfl (fun P X J hJ j => sdX5_makeRules mtX5_packAt mtX4_applyTo P X J hJ j) (hp_R (by decide)) fun As h hp => ?_
  obtain ⟨b, rfl, hp⟩ := sh_R_inv hp
  obtain ⟨hb, o1, o2, o3⟩ := hp
  obtain ⟨h1, h2, h3, h4, h5, h6, h7, h8, h9, h10, h11⟩ := id hb
  refine ⟨ivX5_makeRules b h, 19, ⟨rfl, rfl, rfl, rfl, rfl, rfl⟩, fun j m L S g k n hI => ?_⟩
  match j, hI with
  | 0, hI =>
    obtain ⟨hm, rfl, rfl, rfl, rfl, rfl⟩ := hI
    simp only [spX5_makeRules, vcX5_makeRules, mX5_makeRules, spX5_packAt, spX4_applyTo, ac_ent, ldI, ldR, stI, stR, inc, cI, cJ, cN, bop, oAdd, oSub, oMul, oAnd, oOr, oXor, oShl, oShr, oUshr, oRem, oDiv, oMx, oMn, oI2l, oLcmp, oDup, oDup2, oDupX1, oPop, bIc, bI0, bNul, getI, getR, putI, putZ, putR, aLen, aldI, aldZ, aldJ, aldR, astI, astZ, astJ, astR, nwO, nwA, gsT, oObj, oCpy, oCln, oCst, rtI, rtZ, rtR, rtV, thr, call, callH, ac_hsel, ac_as, ac_rs, ac_cs, ac_rcv, List.map_cons, List.map_nil, List.length_cons, List.length_nil, List.replicate, List.append_nil, List.cons_append, List.nil_append, List.getElem?_cons_zero, List.getElem?_cons_succ, List.set, Nat.zero_add, Nat.add_zero, Nat.le_refl, Nat.reduceAdd, Nat.reduceSub, Nat.reduceLeDiff, Int.reduceLT, Int.reduceLE, Int.reduceNeg, Int.reduceEq, true_and, and_true, true_or, or_true, not_true_eq_false, not_false_eq_true, false_implies, true_implies, implies_true, reduceIte, and_self, Int.reduceAdd, Int.reduceMul, Int.reduceSub, eq_self, Int.add_zero, Int.zero_add, String.reduceEq, Nat.zero_le, Option.some.injEq, Sum.inl.injEq, Sum.inr.injEq, reduceCtorEq, Int.reduceToNat, Option.toList_some, Option.toList_none, ac_cs, ac_c10, ac_c11, ac_c12, ac_c13, ac_c14, ac_c15, ac_c16, ac_c17, sc_E, sh_E, sc_I, sh_I, sc_II, sh_II, sc_III, sh_III, sc_R, sh_R, sc_RI, sh_RI, sc_RII, sh_RII, sc_RIII, sh_RIII, sc_RIIII, sh_RIIII, sc_RR, sh_RR, sc_RRI, sh_RRI, sc_RRR, sh_RRR, sc_RIR, sh_RIR, sc_RIRI, sh_RIRI, sc_RRII, sh_RRII, sc_RRIII, sh_RRIII, sc_RIIRR, sh_RIIRR, sc_RIIIRR, sh_RIIIRR, sc_RIIR, sh_RIIR, sc_RRIIR, sh_RRIIR, sc_RRIIIR, sh_RRIIIR, sc_RRIIIIR, sh_RRIIIIR, sc_RRIR, sh_RRIR, h1]
    rintro a ⟨a0, a1, a2, a3⟩
    refine ⟨⟨Or.inr a1, h8, by omega, by omega⟩, 10, by omega, 0, none, by omega, by omega, rfl, rfl, ?_, rfl, rfl⟩
    funext k' a' j'
    simp only [ac_cpy, ast, six, rlB, rlS]
    by_cases e1 : k' = 10
    · by_cases e2 : a' = g 604 b 0
      · by_cases e3 : 0 ≤ j' ∧ j' < 6
        · simp [e1, e2, e3, a3 j' e3.1 e3.2]
        · rw [if_neg (fun q => e3 ⟨q.2.2.1, by omega⟩), if_pos ⟨e1, e2⟩, if_neg e3, e1, e2]
      · simp [e2]
    · simp [e1]
  | 1, hI =>
    obtain ⟨i, x, i1, hm, rfl, rfl, rfl, rfl, rfl⟩ := hI
    have hb2 : PBk (ast h (h 604 b 0) (six (h 10 (h 604 b 0)) (rlB h b i))) b := by
      simp only [PBk, PKk, pk, pcr, ast_k, ne_eq, Nat.reduceEqDiff, not_false_eq_true]
      exact hb
    simp only [spX5_makeRules, vcX5_makeRules, mX5_makeRules, spX5_packAt, spX4_applyTo, ac_ent, ldI, ldR, stI, stR, inc, cI, cJ, cN, bop, oAdd, oSub, oMul, oAnd, oOr, oXor, oShl, oShr, oUshr, oRem, oDiv, oMx, oMn, oI2l, oLcmp, oDup, oDup2, oDupX1, oPop, bIc, bI0, bNul, getI, getR, putI, putZ, putR, aLen, aldI, aldZ, aldJ, aldR, astI, astZ, astJ, astR, nwO, nwA, gsT, oObj, oCpy, oCln, oCst, rtI, rtZ, rtR, rtV, thr, call, callH, ac_hsel, ac_as, ac_rs, ac_cs, ac_rcv, List.map_cons, List.map_nil, List.length_cons, List.length_nil, List.replicate, List.append_nil, List.cons_append, List.nil_append, List.getElem?_cons_zero, List.getElem?_cons_succ, List.set, Nat.zero_add, Nat.add_zero, Nat.le_refl, Nat.reduceAdd, Nat.reduceSub, Nat.reduceLeDiff, Int.reduceLT, Int.reduceLE, Int.reduceNeg, Int.reduceEq, true_and, and_true, true_or, or_true, not_true_eq_false, not_false_eq_true, false_implies, true_implies, implies_true, reduceIte, and_self, Int.reduceAdd, Int.reduceMul, Int.reduceSub, eq_self, Int.add_zero, Int.zero_add, String.reduceEq, Nat.zero_le, Option.some.injEq, Sum.inl.injEq, Sum.inr.injEq, reduceCtorEq, Int.reduceToNat, Option.toList_some, Option.toList_none, ac_cs, ac_c10, ac_c11, ac_c12, ac_c13, ac_c14, ac_c15, ac_c16, ac_c17, sc_E, sh_E, sc_I, sh_I, sc_II, sh_II, sc_III, sh_III, sc_R, sh_R, sc_RI, sh_RI, sc_RII, sh_RII, sc_RIII, sh_RIII, sc_RIIII, sh_RIIII, sc_RR, sh_RR, sc_RRI, sh_RRI, sc_RRR, sh_RRR, sc_RIR, sh_RIR, sc_RIRI, sh_RIRI, sc_RRII, sh_RRII, sc_RRIII, sh_RRIII, sc_RIIRR, sh_RIIRR, sc_RIIIRR, sh_RIIIRR, sc_RIIR, sh_RIIR, sc_RRIIR, sh_RRIIR, sc_RRIIIR, sh_RRIIIR, sc_RRIIIIR, sh_RRIIIIR, sc_RRIR, sh_RRIR, h1, up_k, ast_k, up_kf, ast_kf, ne_eq, Nat.reduceEqDiff, not_false_eq_true, h8, h9]
    refine ⟨fun q => by rw [show i = (h 603 b 0).toNat by omega], fun q => ⟨⟨Or.inl h6, by omega, by omega⟩, ⟨h4, h5, h3⟩, ?_⟩⟩
    rintro r h' ⟨rfl, rfl⟩
    obtain ⟨p1, p2⟩ := o3 i (by omega) (by omega)
    obtain ⟨c0, c1⟩ := h11 _ p1 p2
    have c3 : PKk (ast h (h 604 b 0) (six (h 10 (h 604 b 0)) (rlB h b i))) (h 16 (h 600 b 0) (h 10 (h 602 b 0) i)) := by
      simp only [PKk, pcr, up_k, ast_k, up_kf, ast_kf, ne_eq, Nat.reduceEqDiff, not_false_eq_true]
      exact c1
    have c2 : h 16 (h 600 b 0) (h 10 (h 602 b 0) i) ≠ 0 := by unfold pk at c0; omega
    have c4 : h 0 (h 16 (h 600 b 0) (h 10 (h 602 b 0) i)) 0 = 24 := c1.1
    simp only [Option.toList_some, ast_a h10, p1, p2, c2, c3, c4, h1, h8, h9, up_k, ast_k, up_kf, ast_kf, ne_eq, Nat.reduceEqDiff, not_false_eq_true, ast_10', ast_ast, ac_ent, ldI, ldR, stI, stR, inc, cI, cJ, cN, bop, oAdd, oSub, oMul, oAnd, oOr, oXor, oShl, oShr, oUshr, oRem, oDiv, oMx, oMn, oI2l, oLcmp, oDup, oDup2, oDupX1, oPop, bIc, bI0, bNul, getI, getR, putI, putZ, putR, aLen, aldI, aldZ, aldJ, aldR, astI, astZ, astJ, astR, nwO, nwA, gsT, oObj, oCpy, oCln, oCst, rtI, rtZ, rtR, rtV, thr, call, callH, ac_hsel, ac_as, ac_rs, ac_cs, ac_rcv, List.map_cons, List.map_nil, List.length_cons, List.length_nil, List.replicate, List.append_nil, List.cons_append, List.nil_append, List.getElem?_cons_zero, List.getElem?_cons_succ, List.set, Nat.zero_add, Nat.add_zero, Nat.le_refl, Nat.reduceAdd, Nat.reduceSub, Nat.reduceLeDiff, Int.reduceLT, Int.reduceLE, Int.reduceNeg, Int.reduceEq, true_and, and_true, true_or, or_true, not_true_eq_false, not_false_eq_true, false_implies, true_implies, implies_true, reduceIte, and_self, Int.reduceAdd, Int.reduceMul, Int.reduceSub, eq_self, Int.add_zero, Int.zero_add, String.reduceEq, Nat.zero_le, Option.some.injEq, Sum.inl.injEq, Sum.inr.injEq, reduceCtorEq, Int.reduceToNat, Option.toList_some, Option.toList_none, ac_cs, ac_c10, ac_c11, ac_c12, ac_c13, ac_c14, ac_c15, ac_c16, ac_c17, sc_E, sh_E, sc_I, sh_I, sc_II, sh_II, sc_III, sh_III, sc_R, sh_R, sc_RI, sh_RI, sc_RII, sh_RII, sc_RIII, sh_RIII, sc_RIIII, sh_RIIII, sc_RR, sh_RR, sc_RRI, sh_RRI, sc_RRR, sh_RRR, sc_RIR, sh_RIR, sc_RIRI, sh_RIRI, sc_RRII, sh_RRII, sc_RRIII, sh_RRIII, sc_RIIRR, sh_RIIRR, sc_RIIIRR, sh_RIIIRR, sc_RIIR, sh_RIIR, sc_RRIIR, sh_RRIIR, sc_RRIIIR, sh_RRIIIR, sc_RRIIIIR, sh_RRIIIIR, sc_RRIR, sh_RRIR]
    rintro r h' ⟨rfl, rfl⟩
    refine ⟨9 - i, by omega, i + 1, some (.inr (.inl (h 16 (h 600 b 0) (h 10 (h 602 b 0) i)))), by omega, by omega, ?_, rfl, ?_, rfl, rfl⟩
    · simp (disch := omega) only [wr_of]
      rfl
    · obtain ⟨d0, d1, d2, d3, d4, d5⟩ := c1
      congr 1
      have st : rlB h b (i + 1) = apn (pcR h b (h 10 (h 602 b 0) i)) (pcS h b (h 10 (h 602 b 0) i)) (pcN h b (h 10 (h 602 b 0) i)) (psz h b (h 10 (h 602 b 0) i)).toNat (rlB h b i) := rfl
      rw [st, ← six_apn]
      · simp only [pcR, pcS, pcN, psz, pk, pcr, pcs, pcn, up_k, ast_k, up_kf, ast_kf, ne_eq, Nat.reduceEqDiff, not_false_eq_true]
        rfl
      · intro j j0 j1
        obtain ⟨-, -, d6, d7⟩ := d5 j j0 (by simp only [psz] at j1; unfold pk at *; omega)
        exact ⟨d6, d7⟩
  | j + 2, hI => exact hI.elim
