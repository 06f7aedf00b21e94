/-! ===== the class's questions about runs and ranks ===== -/
theorem RC_rn {h : ac_H} {x r : Int} {ad s : sS} (hR : RC h x ad s) (hS : SI s) (r0 : 0 ≤ r) (r1 : r < h 909 x 0) : r < s 18 0 0 ∧ rnO h x r = ad 30 r 0 ∧ h 17 (h 908 x 0) r = ad 30 r 0 ∧ 0 < ad 30 r 0 ∧ h 0 (ad 30 r 0) 0 = 27 ∧ h 800 (ad 30 r 0) 0 = r ∧ h 801 (ad 30 r 0) 0 = s 19 r 0 ∧ h 802 (ad 30 r 0) 0 = s 22 r 0 ∧ h 803 (ad 30 r 0) 0 = ad 20 (s 23 r 0) 0 ∧ h 804 (ad 30 r 0) 0 = ad 31 r 0 ∧ h 805 (ad 30 r 0) 0 = s 24 r 0 ∧ h 0 (ad 31 r 0) 0 = 10 ∧ h 1 (ad 31 r 0) 0 = s 21 r 0 ∧ (∀ k, 0 ≤ k → k < s 21 r 0 → h 10 (ad 31 r 0) k = s 20 r k) ∧ (0 ≤ s 23 r 0 ∧ s 23 r 0 < s 11 0 0) ∧ h 0 (ad 20 (s 23 r 0) 0) 0 = 22 ∧ h 300 (ad 20 (s 23 r 0) 0) 0 = s 23 r 0 := by
  have e := (RC_90 hR).2.2.2.2.2
  obtain ⟨hi, ⟨f1, f2, f3, f4, f5, f6, f7, -⟩, -, -, -, -, hg, hl, hr⟩ := hR
  have r2 : r < s 18 0 0 := by omega
  obtain ⟨z1, z2, z3, z4, z5, z6, z7, z8, z9, z10, z11, z12⟩ := hr r r0 r2
  have s23 := (hS.2.2.2.2.2.2.2.2.2.2.2.2 r r0 r2).2.1
  have y := hg _ s23.1 s23.2
  have e2 : h 17 (h 908 x 0) r = ad 30 r 0 := by rw [f7]; exact z2
  exact ⟨r2, e2, e2, z1, z3, z4, z5, z6, z7, z8, z9, z10, z11, z12, s23, y.2.2.1, y.2.2.2.1⟩
def cdRun (r : Int) (s : sS) : Int := if 0 ≤ r ∧ r < s 18 0 0 then 0 else 1
theorem exRun {h h' : ac_H} {x r : Int} {E : String} (w : E = "java/lang/IndexOutOfBoundsException" ∧ h' = h ∧ ¬ (0 ≤ r ∧ r < h 909 x 0)) : EXc x h h' E (cdRun r) (fun _ => "java/lang/IndexOutOfBoundsException") := by
  obtain ⟨rfl, rfl, q⟩ := w
  intro ad s hR hS
  have e := (RC_90 hR).2.2.2.2.2
  have cd : cdRun r s = 1 := by rw [cdRun, if_neg (by omega)]
  rw [cd]
  exact ⟨by decide, rfl, okS_rf hR⟩
def spX8_dungeonOf : ac_Sp := sc_RI (fun x r h => CW h x) (fun x r h v h' => OKc x h h' v (cdRun r) (fun s => s 23 r 0) id) (fun x r h E h' => EXc x h h' E (cdRun r) (fun _ => "java/lang/IndexOutOfBoundsException"))
set_option maxRecDepth 100000 in
set_option maxHeartbeats 4000000 in
theorem mtX8_dungeonOf {G : ac_G} {l : Launch} : ac_Met G l yX8_dungeonOf mX8_dungeonOf 7 114 1 6 spX8_dungeonOf := by
  refine ac_meth1 (pcs := pcX8_dungeonOf) (B := fun P X J j => vcX8_dungeonOf spX8_existingRun P X J j) (by decide) rfl rfl rfl (fun P X J hJ j => sdX8_dungeonOf mtX8_existingRun P X J hJ j) (hp_RI (by decide)) fun As h hp => ?_
  obtain ⟨x, r, rfl, hp⟩ := sh_RI_inv hp
  simp only [spX8_dungeonOf, vcX8_dungeonOf, mX8_dungeonOf, spX8_existingRun, sc_RI, sh_RI, ac_ent, ldI, ldR, stI, stR, inc, cI, cJ, cN, bop, oAdd, oSub, oMul, oAnd, oOr, oXor, oShl, oShr, oUshr, oRem, oDiv, oMx, oMn, oI2l, oLcmp, oDup, oDup2, oDupX1, oPop, bIc, bI0, bNul, getI, getR, putI, putZ, putR, aLen, aldI, aldZ, aldJ, aldR, astI, astZ, astJ, astR, nwO, nwA, gsT, oObj, oCpy, oCln, oCst, rtI, rtZ, rtR, rtV, thr, call, callH, ac_hsel, ac_as, ac_rs, ac_cs, ac_rcv, List.map_cons, List.map_nil, List.length_cons, List.length_nil, List.replicate, List.append_nil, List.cons_append, List.nil_append, List.getElem?_cons_zero, List.getElem?_cons_succ, List.set, Nat.zero_add, Nat.add_zero, Nat.le_refl, Nat.reduceAdd, Nat.reduceSub, Nat.reduceLeDiff, Int.reduceLT, Int.reduceLE, Int.reduceNeg, Int.reduceEq, true_and, and_true, true_or, or_true, not_true_eq_false, not_false_eq_true, false_implies, true_implies, implies_true, reduceIte, and_self, Int.reduceAdd, Int.reduceMul, Int.reduceSub, eq_self, Int.add_zero, Int.zero_add, String.reduceEq, Nat.zero_le, Option.some.injEq, Sum.inl.injEq, Sum.inr.injEq, reduceCtorEq, Int.reduceToNat, Option.toList_some, Option.toList_none, ac_cs, ac_c10, ac_c11, ac_c12, ac_c13, ac_c14, ac_c15, ac_c16, ac_c17, sc_E, sh_E, sc_I, sh_I, sc_II, sh_II, sc_III, sh_III, sc_R, sh_R, sc_RI, sh_RI, sc_RII, sh_RII, sc_RIII, sh_RIII, sc_RIIII, sh_RIIII, sc_RR, sh_RR, sc_RRI, sh_RRI, sc_RRR, sh_RRR, sc_RIR, sh_RIR, sc_RIRI, sh_RIRI, sc_RRII, sh_RRII, sc_RRIII, sh_RRIII, sc_RIIRR, sh_RIIRR, sc_RIIIRR, sh_RIIIRR, sc_RIIR, sh_RIIR, sc_RRIIR, sh_RRIIR, sc_RRIIIR, sh_RRIIIR, sc_RRIIIIR, sh_RRIIIIR, sc_RRIR, sh_RRIR]
  have hC : CW h x := hp
  obtain ⟨ad, s, hR, hS⟩ := hp
  have h1 : h 0 x 0 = 28 := hR.2.1.2.2.1
  simp only [h1, hC, ac_ent, ldI, ldR, stI, stR, inc, cI, cJ, cN, bop, oAdd, oSub, oMul, oAnd, oOr, oXor, oShl, oShr, oUshr, oRem, oDiv, oMx, oMn, oI2l, oLcmp, oDup, oDup2, oDupX1, oPop, bIc, bI0, bNul, getI, getR, putI, putZ, putR, aLen, aldI, aldZ, aldJ, aldR, astI, astZ, astJ, astR, nwO, nwA, gsT, oObj, oCpy, oCln, oCst, rtI, rtZ, rtR, rtV, thr, call, callH, ac_hsel, ac_as, ac_rs, ac_cs, ac_rcv, List.map_cons, List.map_nil, List.length_cons, List.length_nil, List.replicate, List.append_nil, List.cons_append, List.nil_append, List.getElem?_cons_zero, List.getElem?_cons_succ, List.set, Nat.zero_add, Nat.add_zero, Nat.le_refl, Nat.reduceAdd, Nat.reduceSub, Nat.reduceLeDiff, Int.reduceLT, Int.reduceLE, Int.reduceNeg, Int.reduceEq, true_and, and_true, true_or, or_true, not_true_eq_false, not_false_eq_true, false_implies, true_implies, implies_true, reduceIte, and_self, Int.reduceAdd, Int.reduceMul, Int.reduceSub, eq_self, Int.add_zero, Int.zero_add, String.reduceEq, Nat.zero_le, Option.some.injEq, Sum.inl.injEq, Sum.inr.injEq, reduceCtorEq, Int.reduceToNat, Option.toList_some, Option.toList_none, ac_cs, ac_c10, ac_c11, ac_c12, ac_c13, ac_c14, ac_c15, ac_c16, ac_c17, sc_E, sh_E, sc_I, sh_I, sc_II, sh_II, sc_III, sh_III, sc_R, sh_R, sc_RI, sh_RI, sc_RII, sh_RII, sc_RIII, sh_RIII, sc_RIIII, sh_RIIII, sc_RR, sh_RR, sc_RRI, sh_RRI, sc_RRR, sh_RRR, sc_RIR, sh_RIR, sc_RIRI, sh_RIRI, sc_RRII, sh_RRII, sc_RRIII, sh_RRIII, sc_RIIRR, sh_RIIRR, sc_RIIIRR, sh_RIIIRR, sc_RIIR, sh_RIIR, sc_RRIIR, sh_RRIIR, sc_RRIIIR, sh_RRIIIR, sc_RRIIIIR, sh_RRIIIIR, sc_RRIR, sh_RRIR]
  refine ⟨?_, fun E h' w => exRun w⟩
  rintro v h' ⟨rfl, r0, r1, rfl⟩
  obtain ⟨r2, e1, e2, e3, e4, e5, e6, e7, e8, e9, e10, e11, e12, e13, e14, e15, e16⟩ := RC_rn hR hS r0 r1
  have g1 : h' 0 (h' 17 (h' 908 x 0) r) 0 = 27 := by rw [e2]; exact e4
  have g2 : h' 0 (h' 803 (h' 17 (h' 908 x 0) r) 0) 0 = 22 := by rw [e2, e8]; exact e15
  simp only [g1, g2, ac_ent, ldI, ldR, stI, stR, inc, cI, cJ, cN, bop, oAdd, oSub, oMul, oAnd, oOr, oXor, oShl, oShr, oUshr, oRem, oDiv, oMx, oMn, oI2l, oLcmp, oDup, oDup2, oDupX1, oPop, bIc, bI0, bNul, getI, getR, putI, putZ, putR, aLen, aldI, aldZ, aldJ, aldR, astI, astZ, astJ, astR, nwO, nwA, gsT, oObj, oCpy, oCln, oCst, rtI, rtZ, rtR, rtV, thr, call, callH, ac_hsel, ac_as, ac_rs, ac_cs, ac_rcv, List.map_cons, List.map_nil, List.length_cons, List.length_nil, List.replicate, List.append_nil, List.cons_append, List.nil_append, List.getElem?_cons_zero, List.getElem?_cons_succ, List.set, Nat.zero_add, Nat.add_zero, Nat.le_refl, Nat.reduceAdd, Nat.reduceSub, Nat.reduceLeDiff, Int.reduceLT, Int.reduceLE, Int.reduceNeg, Int.reduceEq, true_and, and_true, true_or, or_true, not_true_eq_false, not_false_eq_true, false_implies, true_implies, implies_true, reduceIte, and_self, Int.reduceAdd, Int.reduceMul, Int.reduceSub, eq_self, Int.add_zero, Int.zero_add, String.reduceEq, Nat.zero_le, Option.some.injEq, Sum.inl.injEq, Sum.inr.injEq, reduceCtorEq, Int.reduceToNat, Option.toList_some, Option.toList_none, ac_cs, ac_c10, ac_c11, ac_c12, ac_c13, ac_c14, ac_c15, ac_c16, ac_c17, sc_E, sh_E, sc_I, sh_I, sc_II, sh_II, sc_III, sh_III, sc_R, sh_R, sc_RI, sh_RI, sc_RII, sh_RII, sc_RIII, sh_RIII, sc_RIIII, sh_RIIII, sc_RR, sh_RR, sc_RRI, sh_RRI, sc_RRR, sh_RRR, sc_RIR, sh_RIR, sc_RIRI, sh_RIRI, sc_RRII, sh_RRII, sc_RRIII, sh_RRIII, sc_RIIRR, sh_RIIRR, sc_RIIIRR, sh_RIIIRR, sc_RIIR, sh_RIIR, sc_RRIIR, sh_RRIIR, sc_RRIIIR, sh_RRIIIR, sc_RRIIIIR, sh_RRIIIIR, sc_RRIR, sh_RRIR]
  intro ad s hR hS
  obtain ⟨r2, e1, e2, e3, e4, e5, e6, e7, e8, e9, e10, e11, e12, e13, e14, e15, e16⟩ := RC_rn hR hS r0 r1
  exact ⟨by rw [cdRun, if_pos ⟨r0, r2⟩], by rw [e2, e8, e16], okS_rf hR⟩
def spX8_verdict : ac_Sp := sc_RI (fun x r h => CW h x) (fun x r h v h' => OKc x h h' v (cdRun r) (fun s => s 24 r 0) id) (fun x r h E h' => EXc x h h' E (cdRun r) (fun _ => "java/lang/IndexOutOfBoundsException"))
set_option maxRecDepth 100000 in
set_option maxHeartbeats 4000000 in
theorem mtX8_verdict {G : ac_G} {l : Launch} : ac_Met G l yX8_verdict mX8_verdict 7 114 1 6 spX8_verdict := by
  refine ac_meth1 (pcs := pcX8_verdict) (B := fun P X J j => vcX8_verdict spX8_existingRun P X J j) (by decide) rfl rfl rfl (fun P X J hJ j => sdX8_verdict mtX8_existingRun P X J hJ j) (hp_RI (by decide)) fun As h hp => ?_
  obtain ⟨x, r, rfl, hp⟩ := sh_RI_inv hp
  simp only [spX8_verdict, vcX8_verdict, mX8_verdict, spX8_existingRun, sc_RI, sh_RI, ac_ent, ldI, ldR, stI, stR, inc, cI, cJ, cN, bop, oAdd, oSub, oMul, oAnd, oOr, oXor, oShl, oShr, oUshr, oRem, oDiv, oMx, oMn, oI2l, oLcmp, oDup, oDup2, oDupX1, oPop, bIc, bI0, bNul, getI, getR, putI, putZ, putR, aLen, aldI, aldZ, aldJ, aldR, astI, astZ, astJ, astR, nwO, nwA, gsT, oObj, oCpy, oCln, oCst, rtI, rtZ, rtR, rtV, thr, call, callH, ac_hsel, ac_as, ac_rs, ac_cs, ac_rcv, List.map_cons, List.map_nil, List.length_cons, List.length_nil, List.replicate, List.append_nil, List.cons_append, List.nil_append, List.getElem?_cons_zero, List.getElem?_cons_succ, List.set, Nat.zero_add, Nat.add_zero, Nat.le_refl, Nat.reduceAdd, Nat.reduceSub, Nat.reduceLeDiff, Int.reduceLT, Int.reduceLE, Int.reduceNeg, Int.reduceEq, true_and, and_true, true_or, or_true, not_true_eq_false, not_false_eq_true, false_implies, true_implies, implies_true, reduceIte, and_self, Int.reduceAdd, Int.reduceMul, Int.reduceSub, eq_self, Int.add_zero, Int.zero_add, String.reduceEq, Nat.zero_le, Option.some.injEq, Sum.inl.injEq, Sum.inr.injEq, reduceCtorEq, Int.reduceToNat, Option.toList_some, Option.toList_none, ac_cs, ac_c10, ac_c11, ac_c12, ac_c13, ac_c14, ac_c15, ac_c16, ac_c17, sc_E, sh_E, sc_I, sh_I, sc_II, sh_II, sc_III, sh_III, sc_R, sh_R, sc_RI, sh_RI, sc_RII, sh_RII, sc_RIII, sh_RIII, sc_RIIII, sh_RIIII, sc_RR, sh_RR, sc_RRI, sh_RRI, sc_RRR, sh_RRR, sc_RIR, sh_RIR, sc_RIRI, sh_RIRI, sc_RRII, sh_RRII, sc_RRIII, sh_RRIII, sc_RIIRR, sh_RIIRR, sc_RIIIRR, sh_RIIIRR, sc_RIIR, sh_RIIR, sc_RRIIR, sh_RRIIR, sc_RRIIIR, sh_RRIIIR, sc_RRIIIIR, sh_RRIIIIR, sc_RRIR, sh_RRIR]
  have hC : CW h x := hp
  obtain ⟨ad, s, hR, hS⟩ := hp
  have h1 : h 0 x 0 = 28 := hR.2.1.2.2.1
  simp only [h1, hC, ac_ent, ldI, ldR, stI, stR, inc, cI, cJ, cN, bop, oAdd, oSub, oMul, oAnd, oOr, oXor, oShl, oShr, oUshr, oRem, oDiv, oMx, oMn, oI2l, oLcmp, oDup, oDup2, oDupX1, oPop, bIc, bI0, bNul, getI, getR, putI, putZ, putR, aLen, aldI, aldZ, aldJ, aldR, astI, astZ, astJ, astR, nwO, nwA, gsT, oObj, oCpy, oCln, oCst, rtI, rtZ, rtR, rtV, thr, call, callH, ac_hsel, ac_as, ac_rs, ac_cs, ac_rcv, List.map_cons, List.map_nil, List.length_cons, List.length_nil, List.replicate, List.append_nil, List.cons_append, List.nil_append, List.getElem?_cons_zero, List.getElem?_cons_succ, List.set, Nat.zero_add, Nat.add_zero, Nat.le_refl, Nat.reduceAdd, Nat.reduceSub, Nat.reduceLeDiff, Int.reduceLT, Int.reduceLE, Int.reduceNeg, Int.reduceEq, true_and, and_true, true_or, or_true, not_true_eq_false, not_false_eq_true, false_implies, true_implies, implies_true, reduceIte, and_self, Int.reduceAdd, Int.reduceMul, Int.reduceSub, eq_self, Int.add_zero, Int.zero_add, String.reduceEq, Nat.zero_le, Option.some.injEq, Sum.inl.injEq, Sum.inr.injEq, reduceCtorEq, Int.reduceToNat, Option.toList_some, Option.toList_none, ac_cs, ac_c10, ac_c11, ac_c12, ac_c13, ac_c14, ac_c15, ac_c16, ac_c17, sc_E, sh_E, sc_I, sh_I, sc_II, sh_II, sc_III, sh_III, sc_R, sh_R, sc_RI, sh_RI, sc_RII, sh_RII, sc_RIII, sh_RIII, sc_RIIII, sh_RIIII, sc_RR, sh_RR, sc_RRI, sh_RRI, sc_RRR, sh_RRR, sc_RIR, sh_RIR, sc_RIRI, sh_RIRI, sc_RRII, sh_RRII, sc_RRIII, sh_RRIII, sc_RIIRR, sh_RIIRR, sc_RIIIRR, sh_RIIIRR, sc_RIIR, sh_RIIR, sc_RRIIR, sh_RRIIR, sc_RRIIIR, sh_RRIIIR, sc_RRIIIIR, sh_RRIIIIR, sc_RRIR, sh_RRIR]
  refine ⟨?_, fun E h' w => exRun w⟩
  rintro v h' ⟨rfl, r0, r1, rfl⟩
  obtain ⟨r2, e1, e2, e3, e4, e5, e6, e7, e8, e9, e10, e11, e12, e13, e14, e15, e16⟩ := RC_rn hR hS r0 r1
  have g1 : h' 0 (h' 17 (h' 908 x 0) r) 0 = 27 := by rw [e2]; exact e4
  simp only [g1, ac_ent, ldI, ldR, stI, stR, inc, cI, cJ, cN, bop, oAdd, oSub, oMul, oAnd, oOr, oXor, oShl, oShr, oUshr, oRem, oDiv, oMx, oMn, oI2l, oLcmp, oDup, oDup2, oDupX1, oPop, bIc, bI0, bNul, getI, getR, putI, putZ, putR, aLen, aldI, aldZ, aldJ, aldR, astI, astZ, astJ, astR, nwO, nwA, gsT, oObj, oCpy, oCln, oCst, rtI, rtZ, rtR, rtV, thr, call, callH, ac_hsel, ac_as, ac_rs, ac_cs, ac_rcv, List.map_cons, List.map_nil, List.length_cons, List.length_nil, List.replicate, List.append_nil, List.cons_append, List.nil_append, List.getElem?_cons_zero, List.getElem?_cons_succ, List.set, Nat.zero_add, Nat.add_zero, Nat.le_refl, Nat.reduceAdd, Nat.reduceSub, Nat.reduceLeDiff, Int.reduceLT, Int.reduceLE, Int.reduceNeg, Int.reduceEq, true_and, and_true, true_or, or_true, not_true_eq_false, not_false_eq_true, false_implies, true_implies, implies_true, reduceIte, and_self, Int.reduceAdd, Int.reduceMul, Int.reduceSub, eq_self, Int.add_zero, Int.zero_add, String.reduceEq, Nat.zero_le, Option.some.injEq, Sum.inl.injEq, Sum.inr.injEq, reduceCtorEq, Int.reduceToNat, Option.toList_some, Option.toList_none, ac_cs, ac_c10, ac_c11, ac_c12, ac_c13, ac_c14, ac_c15, ac_c16, ac_c17, sc_E, sh_E, sc_I, sh_I, sc_II, sh_II, sc_III, sh_III, sc_R, sh_R, sc_RI, sh_RI, sc_RII, sh_RII, sc_RIII, sh_RIII, sc_RIIII, sh_RIIII, sc_RR, sh_RR, sc_RRI, sh_RRI, sc_RRR, sh_RRR, sc_RIR, sh_RIR, sc_RIRI, sh_RIRI, sc_RRII, sh_RRII, sc_RRIII, sh_RRIII, sc_RIIRR, sh_RIIRR, sc_RIIIRR, sh_RIIIRR, sc_RIIR, sh_RIIR, sc_RRIIR, sh_RRIIR, sc_RRIIIR, sh_RRIIIR, sc_RRIIIIR, sh_RRIIIIR, sc_RRIR, sh_RRIR]
  intro ad s hR hS
  obtain ⟨r2, e1, e2, e3, e4, e5, e6, e7, e8, e9, e10, e11, e12, e13, e14, e15, e16⟩ := RC_rn hR hS r0 r1
  exact ⟨by rw [cdRun, if_pos ⟨r0, r2⟩], by rw [e2, e10], okS_rf hR⟩
abbrev ahS (s : sS) (r i : Int) : Prop := (s 24 i 0 = -1 ∧ s 23 i 0 = s 23 r 0) ∧ ahd (s 22 i 0) (s 21 i 0) i (s 22 r 0) (s 21 r 0) r
/-- how many of the first n runs go ahead of run r -/
def cnS (s : sS) (r : Int) : Nat → Int
  | 0 => 0
  | n + 1 => cnS s r n + (if ahS s r n then 1 else 0)
def rkS (s : sS) (r : Int) : Int := cnS s r (s 18 0 0).toNat
theorem RC_cn {h : ac_H} {x r : Int} {ad s : sS} (hR : RC h x ad s) (hS : SI s) (r0 : 0 ≤ r) (r1 : r < h 909 x 0) : ∀ n : Nat, (n : Int) ≤ h 909 x 0 → cnA h x (ad 30 r 0) n = cnS s r n
  | 0, _ => rfl
  | n + 1, hn => by
    rw [cnA, cnS, RC_cn hR hS r0 r1 n (by omega)]
    obtain ⟨r2, e1, e2, e3, e4, e5, e6, e7, e8, e9, e10, e11, e12, e13, e14, e15, e16⟩ := RC_rn hR hS r0 r1
    obtain ⟨r2', e1', e2', e3', e4', e5', e6', e7', e8', e9', e10', e11', e12', e13', e14', e15', e16'⟩ := RC_rn hR hS (r := n) (by omega) (by omega)
    have : ahP h x (ad 30 r 0) n ↔ ahS s r n := by
      unfold ahP ahS
      rw [e1', e10', e8', e16', e8, e16, e7', e9', e12', e5', e7, e9, e12, e5]
    by_cases q : ahS s r n
    · rw [if_pos (this.mpr q), if_pos q]
    · rw [if_neg (fun q2 => q (this.mp q2)), if_neg q]
theorem RC_rk {h : ac_H} {x r : Int} {ad s : sS} (hR : RC h x ad s) (hS : SI s) (r0 : 0 ≤ r) (r1 : r < h 909 x 0) : cnA h x (ad 30 r 0) (h 909 x 0).toNat = rkS s r := by
  have e := (RC_90 hR).2.2.2.2.2
  rw [RC_cn hR hS r0 r1 _ (by omega), e]; rfl
def vlRank (r : Int) (s : sS) : Int := if s 24 r 0 = -1 then rkS s r else -1
def spX8_rank : ac_Sp := sc_RI (fun x r h => CW h x) (fun x r h v h' => OKc x h h' v (cdRun r) (vlRank r) id) (fun x r h E h' => EXc x h h' E (cdRun r) (fun _ => "java/lang/IndexOutOfBoundsException"))
set_option maxRecDepth 100000 in
set_option maxHeartbeats 4000000 in
theorem mtX8_rank {G : ac_G} {l : Launch} : ac_Met G l yX8_rank mX8_rank 7 114 1 6 spX8_rank := by
  refine ac_meth1 (pcs := pcX8_rank) (B := fun P X J j => vcX8_rank spX8_existingRun spX7_isRanked spX8_countAhead P X J j) (by decide) rfl rfl rfl (fun P X J hJ j => sdX8_rank mtX8_existingRun mtX7_isRanked mtX8_countAhead P X J hJ j) (hp_RI (by decide)) fun As h hp => ?_
  obtain ⟨x, r, rfl, hp⟩ := sh_RI_inv hp
  simp only [spX8_rank, vcX8_rank, mX8_rank, spX8_existingRun, spX7_isRanked, spX8_countAhead, sc_RI, sh_RI, ac_ent, ldI, ldR, stI, stR, inc, cI, cJ, cN, bop, oAdd, oSub, oMul, oAnd, oOr, oXor, oShl, oShr, oUshr, oRem, oDiv, oMx, oMn, oI2l, oLcmp, oDup, oDup2, oDupX1, oPop, bIc, bI0, bNul, getI, getR, putI, putZ, putR, aLen, aldI, aldZ, aldJ, aldR, astI, astZ, astJ, astR, nwO, nwA, gsT, oObj, oCpy, oCln, oCst, rtI, rtZ, rtR, rtV, thr, call, callH, ac_hsel, ac_as, ac_rs, ac_cs, ac_rcv, List.map_cons, List.map_nil, List.length_cons, List.length_nil, List.replicate, List.append_nil, List.cons_append, List.nil_append, List.getElem?_cons_zero, List.getElem?_cons_succ, List.set, Nat.zero_add, Nat.add_zero, Nat.le_refl, Nat.reduceAdd, Nat.reduceSub, Nat.reduceLeDiff, Int.reduceLT, Int.reduceLE, Int.reduceNeg, Int.reduceEq, true_and, and_true, true_or, or_true, not_true_eq_false, not_false_eq_true, false_implies, true_implies, implies_true, reduceIte, and_self, Int.reduceAdd, Int.reduceMul, Int.reduceSub, eq_self, Int.add_zero, Int.zero_add, String.reduceEq, Nat.zero_le, Option.some.injEq, Sum.inl.injEq, Sum.inr.injEq, reduceCtorEq, Int.reduceToNat, Option.toList_some, Option.toList_none, ac_cs, ac_c10, ac_c11, ac_c12, ac_c13, ac_c14, ac_c15, ac_c16, ac_c17, sc_E, sh_E, sc_I, sh_I, sc_II, sh_II, sc_III, sh_III, sc_R, sh_R, sc_RI, sh_RI, sc_RII, sh_RII, sc_RIII, sh_RIII, sc_RIIII, sh_RIIII, sc_RR, sh_RR, sc_RRI, sh_RRI, sc_RRR, sh_RRR, sc_RIR, sh_RIR, sc_RIRI, sh_RIRI, sc_RRII, sh_RRII, sc_RRIII, sh_RRIII, sc_RIIRR, sh_RIIRR, sc_RIIIRR, sh_RIIIRR, sc_RIIR, sh_RIIR, sc_RRIIR, sh_RRIIR, sc_RRIIIR, sh_RRIIIR, sc_RRIIIIR, sh_RRIIIIR, sc_RRIR, sh_RRIR]
  have hC : CW h x := hp
  obtain ⟨ad, s, hR, hS⟩ := hp
  have h1 : h 0 x 0 = 28 := hR.2.1.2.2.1
  simp only [h1, hC, ac_ent, ldI, ldR, stI, stR, inc, cI, cJ, cN, bop, oAdd, oSub, oMul, oAnd, oOr, oXor, oShl, oShr, oUshr, oRem, oDiv, oMx, oMn, oI2l, oLcmp, oDup, oDup2, oDupX1, oPop, bIc, bI0, bNul, getI, getR, putI, putZ, putR, aLen, aldI, aldZ, aldJ, aldR, astI, astZ, astJ, astR, nwO, nwA, gsT, oObj, oCpy, oCln, oCst, rtI, rtZ, rtR, rtV, thr, call, callH, ac_hsel, ac_as, ac_rs, ac_cs, ac_rcv, List.map_cons, List.map_nil, List.length_cons, List.length_nil, List.replicate, List.append_nil, List.cons_append, List.nil_append, List.getElem?_cons_zero, List.getElem?_cons_succ, List.set, Nat.zero_add, Nat.add_zero, Nat.le_refl, Nat.reduceAdd, Nat.reduceSub, Nat.reduceLeDiff, Int.reduceLT, Int.reduceLE, Int.reduceNeg, Int.reduceEq, true_and, and_true, true_or, or_true, not_true_eq_false, not_false_eq_true, false_implies, true_implies, implies_true, reduceIte, and_self, Int.reduceAdd, Int.reduceMul, Int.reduceSub, eq_self, Int.add_zero, Int.zero_add, String.reduceEq, Nat.zero_le, Option.some.injEq, Sum.inl.injEq, Sum.inr.injEq, reduceCtorEq, Int.reduceToNat, Option.toList_some, Option.toList_none, ac_cs, ac_c10, ac_c11, ac_c12, ac_c13, ac_c14, ac_c15, ac_c16, ac_c17, sc_E, sh_E, sc_I, sh_I, sc_II, sh_II, sc_III, sh_III, sc_R, sh_R, sc_RI, sh_RI, sc_RII, sh_RII, sc_RIII, sh_RIII, sc_RIIII, sh_RIIII, sc_RR, sh_RR, sc_RRI, sh_RRI, sc_RRR, sh_RRR, sc_RIR, sh_RIR, sc_RIRI, sh_RIRI, sc_RRII, sh_RRII, sc_RRIII, sh_RRIII, sc_RIIRR, sh_RIIRR, sc_RIIIRR, sh_RIIIRR, sc_RIIR, sh_RIIR, sc_RRIIR, sh_RRIIR, sc_RRIIIR, sh_RRIIIR, sc_RRIIIIR, sh_RRIIIIR, sc_RRIR, sh_RRIR]
  refine ⟨?_, fun E h' w => exRun w⟩
  rintro v h' ⟨rfl, r0, r1, rfl⟩
  obtain ⟨r2, e1, e2, e3, e4, e5, e6, e7, e8, e9, e10, e11, e12, e13, e14, e15, e16⟩ := RC_rn hR hS r0 r1
  have g1 : h' 0 (h' 17 (h' 908 x 0) r) 0 = 27 := by rw [e2]; exact e4
  simp only [g1, ac_ent, ldI, ldR, stI, stR, inc, cI, cJ, cN, bop, oAdd, oSub, oMul, oAnd, oOr, oXor, oShl, oShr, oUshr, oRem, oDiv, oMx, oMn, oI2l, oLcmp, oDup, oDup2, oDupX1, oPop, bIc, bI0, bNul, getI, getR, putI, putZ, putR, aLen, aldI, aldZ, aldJ, aldR, astI, astZ, astJ, astR, nwO, nwA, gsT, oObj, oCpy, oCln, oCst, rtI, rtZ, rtR, rtV, thr, call, callH, ac_hsel, ac_as, ac_rs, ac_cs, ac_rcv, List.map_cons, List.map_nil, List.length_cons, List.length_nil, List.replicate, List.append_nil, List.cons_append, List.nil_append, List.getElem?_cons_zero, List.getElem?_cons_succ, List.set, Nat.zero_add, Nat.add_zero, Nat.le_refl, Nat.reduceAdd, Nat.reduceSub, Nat.reduceLeDiff, Int.reduceLT, Int.reduceLE, Int.reduceNeg, Int.reduceEq, true_and, and_true, true_or, or_true, not_true_eq_false, not_false_eq_true, false_implies, true_implies, implies_true, reduceIte, and_self, Int.reduceAdd, Int.reduceMul, Int.reduceSub, eq_self, Int.add_zero, Int.zero_add, String.reduceEq, Nat.zero_le, Option.some.injEq, Sum.inl.injEq, Sum.inr.injEq, reduceCtorEq, Int.reduceToNat, Option.toList_some, Option.toList_none, ac_cs, ac_c10, ac_c11, ac_c12, ac_c13, ac_c14, ac_c15, ac_c16, ac_c17, sc_E, sh_E, sc_I, sh_I, sc_II, sh_II, sc_III, sh_III, sc_R, sh_R, sc_RI, sh_RI, sc_RII, sh_RII, sc_RIII, sh_RIII, sc_RIIII, sh_RIIII, sc_RR, sh_RR, sc_RRI, sh_RRI, sc_RRR, sh_RRR, sc_RIR, sh_RIR, sc_RIRI, sh_RIRI, sc_RRII, sh_RRII, sc_RRIII, sh_RRIII, sc_RIIRR, sh_RIIRR, sc_RIIIRR, sh_RIIIRR, sc_RIIR, sh_RIIR, sc_RRIIR, sh_RRIIR, sc_RRIIIR, sh_RRIIIR, sc_RRIIIIR, sh_RRIIIIR, sc_RRIR, sh_RRIR]
  rintro v g ⟨rfl, rfl⟩
  simp only [h1, hC, ac_ent, ldI, ldR, stI, stR, inc, cI, cJ, cN, bop, oAdd, oSub, oMul, oAnd, oOr, oXor, oShl, oShr, oUshr, oRem, oDiv, oMx, oMn, oI2l, oLcmp, oDup, oDup2, oDupX1, oPop, bIc, bI0, bNul, getI, getR, putI, putZ, putR, aLen, aldI, aldZ, aldJ, aldR, astI, astZ, astJ, astR, nwO, nwA, gsT, oObj, oCpy, oCln, oCst, rtI, rtZ, rtR, rtV, thr, call, callH, ac_hsel, ac_as, ac_rs, ac_cs, ac_rcv, List.map_cons, List.map_nil, List.length_cons, List.length_nil, List.replicate, List.append_nil, List.cons_append, List.nil_append, List.getElem?_cons_zero, List.getElem?_cons_succ, List.set, Nat.zero_add, Nat.add_zero, Nat.le_refl, Nat.reduceAdd, Nat.reduceSub, Nat.reduceLeDiff, Int.reduceLT, Int.reduceLE, Int.reduceNeg, Int.reduceEq, true_and, and_true, true_or, or_true, not_true_eq_false, not_false_eq_true, false_implies, true_implies, implies_true, reduceIte, and_self, Int.reduceAdd, Int.reduceMul, Int.reduceSub, eq_self, Int.add_zero, Int.zero_add, String.reduceEq, Nat.zero_le, Option.some.injEq, Sum.inl.injEq, Sum.inr.injEq, reduceCtorEq, Int.reduceToNat, Option.toList_some, Option.toList_none, ac_cs, ac_c10, ac_c11, ac_c12, ac_c13, ac_c14, ac_c15, ac_c16, ac_c17, sc_E, sh_E, sc_I, sh_I, sc_II, sh_II, sc_III, sh_III, sc_R, sh_R, sc_RI, sh_RI, sc_RII, sh_RII, sc_RIII, sh_RIII, sc_RIIII, sh_RIIII, sc_RR, sh_RR, sc_RRI, sh_RRI, sc_RRR, sh_RRR, sc_RIR, sh_RIR, sc_RIRI, sh_RIRI, sc_RRII, sh_RRII, sc_RRIII, sh_RRIII, sc_RIIRR, sh_RIIRR, sc_RIIIRR, sh_RIIIRR, sc_RIIR, sh_RIIR, sc_RRIIR, sh_RRIIR, sc_RRIIIR, sh_RRIIIR, sc_RRIIIIR, sh_RRIIIIR, sc_RRIR, sh_RRIR]
  refine ⟨fun e => ?_, fun e => ⟨⟨r, r0, r1, rfl⟩, ?_⟩⟩
  · intro ad s hR hS
    obtain ⟨r2, e1, e2, e3, e4, e5, e6, e7, e8, e9, e10, e11, e12, e13, e14, e15, e16⟩ := RC_rn hR hS r0 r1
    rw [e2, e10] at e
    have : ¬ s 24 r 0 = -1 := fun q => by rw [if_pos q] at e; exact absurd e (by decide)
    exact ⟨by rw [cdRun, if_pos ⟨r0, r2⟩], by rw [vlRank, if_neg this], okS_rf hR⟩
  · rintro v h' ⟨rfl, rfl⟩
    simp only [ac_ent, ldI, ldR, stI, stR, inc, cI, cJ, cN, bop, oAdd, oSub, oMul, oAnd, oOr, oXor, oShl, oShr, oUshr, oRem, oDiv, oMx, oMn, oI2l, oLcmp, oDup, oDup2, oDupX1, oPop, bIc, bI0, bNul, getI, getR, putI, putZ, putR, aLen, aldI, aldZ, aldJ, aldR, astI, astZ, astJ, astR, nwO, nwA, gsT, oObj, oCpy, oCln, oCst, rtI, rtZ, rtR, rtV, thr, call, callH, ac_hsel, ac_as, ac_rs, ac_cs, ac_rcv, List.map_cons, List.map_nil, List.length_cons, List.length_nil, List.replicate, List.append_nil, List.cons_append, List.nil_append, List.getElem?_cons_zero, List.getElem?_cons_succ, List.set, Nat.zero_add, Nat.add_zero, Nat.le_refl, Nat.reduceAdd, Nat.reduceSub, Nat.reduceLeDiff, Int.reduceLT, Int.reduceLE, Int.reduceNeg, Int.reduceEq, true_and, and_true, true_or, or_true, not_true_eq_false, not_false_eq_true, false_implies, true_implies, implies_true, reduceIte, and_self, Int.reduceAdd, Int.reduceMul, Int.reduceSub, eq_self, Int.add_zero, Int.zero_add, String.reduceEq, Nat.zero_le, Option.some.injEq, Sum.inl.injEq, Sum.inr.injEq, reduceCtorEq, Int.reduceToNat, Option.toList_some, Option.toList_none, ac_cs, ac_c10, ac_c11, ac_c12, ac_c13, ac_c14, ac_c15, ac_c16, ac_c17, sc_E, sh_E, sc_I, sh_I, sc_II, sh_II, sc_III, sh_III, sc_R, sh_R, sc_RI, sh_RI, sc_RII, sh_RII, sc_RIII, sh_RIII, sc_RIIII, sh_RIIII, sc_RR, sh_RR, sc_RRI, sh_RRI, sc_RRR, sh_RRR, sc_RIR, sh_RIR, sc_RIRI, sh_RIRI, sc_RRII, sh_RRII, sc_RRIII, sh_RRIII, sc_RIIRR, sh_RIIRR, sc_RIIIRR, sh_RIIIRR, sc_RIIR, sh_RIIR, sc_RRIIR, sh_RRIIR, sc_RRIIIR, sh_RRIIIR, sc_RRIIIIR, sh_RRIIIIR, sc_RRIR, sh_RRIR]
    intro ad s hR hS
    obtain ⟨r2, e1, e2, e3, e4, e5, e6, e7, e8, e9, e10, e11, e12, e13, e14, e15, e16⟩ := RC_rn hR hS r0 r1
    rw [e2, e10] at e
    have : s 24 r 0 = -1 := by
      by_cases q : s 24 r 0 = -1
      · exact q
      · exact absurd (if_neg q) e
    exact ⟨by rw [cdRun, if_pos ⟨r0, r2⟩], by rw [vlRank, if_pos this, e2, RC_rk hR hS r0 r1], okS_rf hR⟩
def cdRanked (d k : Int) (s : sS) : Int := if 0 ≤ d ∧ d < s 11 0 0 then (if 0 ≤ k then 0 else 2) else 1
def rkP (s : sS) (d k i : Int) : Bool := decide ((s 24 i 0 = -1 ∧ s 23 i 0 = d) ∧ rkS s i = k)
def vlRanked (d k : Int) (s : sS) : Int := fnd (rkP s d k) (s 18 0 0).toNat
def spX8_ranked : ac_Sp := sc_RII (fun x d k h => CW h x) (fun x d k h v h' => OKc x h h' v (cdRanked d k) (vlRanked d k) id) (fun x d k h E h' => EXc x h h' E (cdRanked d k) (n2 "java/lang/IndexOutOfBoundsException" "java/lang/IllegalArgumentException"))
def ivX8_ranked (x d kk : Int) (h : ac_H) : Nat → Nat → ac_S := fun j m => match j with
  | 0 => fun L S g k nn => m = 1000 ∧ ent0 [some (.inr (.inl x)), some (.inl d), some (.inl kk), none, none] h L S g k nn
  | 1 => fun L S g k nn => ∃ (i : Int) (o4 : Option ac_V), 0 ≤ i ∧ i ≤ h 909 x 0 ∧ (m : Int) = 60 - i ∧ (0 ≤ d ∧ d < h 907 x 0 ∧ 0 ≤ kk) ∧ (∀ ad s, RC h x ad s → SI s → ∀ z, 0 ≤ z → z < i → rkP s d kk z = false) ∧ L = [some (.inr (.inl x)), some (.inl d), some (.inl kk), some (.inl i), o4] ∧ S = [] ∧ g = h ∧ k = 1 ∧ nn = 6
  | _ => fun _ _ _ _ _ => False
set_option maxRecDepth 100000 in
set_option maxHeartbeats 4000000 in
theorem mtX8_ranked {G : ac_G} {l : Launch} : ac_Met G l yX8_ranked mX8_ranked 7 114 2 12 spX8_ranked := by
  refine ac_meth (pcs := pcX8_ranked) (B := fun P X J j => vcX8_ranked spX8_existingDungeon spX7_isRankedIn spX8_countAhead P X J j) (by decide) rfl rfl rfl (fun P X J hJ j => sdX8_ranked mtX8_existingDungeon mtX7_isRankedIn mtX8_countAhead P X J hJ j) (hp_RII (by decide)) fun As h hp => ?_
  obtain ⟨x, d, kk, rfl, hp⟩ := sh_RII_inv hp
  have hC : CW h x := hp
  obtain ⟨ad, s, hR, hS⟩ := hp
  have h1 : h 0 x 0 = 28 := hR.2.1.2.2.1
  obtain ⟨f1, f2, f3, f4, f5, f6, f7, f8, f9, f10, f11, f12, f13, f14, f15, f16, f17, f18, f19, f20, f21, f22, f23, f24, f25, f26, f27, f28, f29⟩ := hR.2.1
  have s18 := hS.2.2.2.2.2.2.2.2.2.2.2.1
  obtain ⟨z6, z7, z8, z9, z11, z18⟩ := RC_90 hR
  have k1 : h 0 (h 908 x 0) 0 = 17 := by rw [f7]; exact f24
  have k2 : h 1 (h 908 x 0) 0 = 60 := by rw [f7]; exact f25
  refine ⟨ivX8_ranked x d kk h, 1000, ⟨rfl, rfl, rfl, rfl, rfl, rfl⟩, fun j m L S g k nn hI => ?_⟩
  match j, hI with
  | 0, hI =>
    obtain ⟨hm, rfl, rfl, rfl, rfl, rfl⟩ := hI
    simp only [spX8_ranked, vcX8_ranked, mX8_ranked, spX8_existingDungeon, spX7_isRankedIn, spX8_countAhead, ac_ent, ldI, ldR, stI, stR, inc, cI, cJ, cN, bop, oAdd, oSub, oMul, oAnd, oOr, oXor, oShl, oShr, oUshr, oRem, oDiv, oMx, oMn, oI2l, oLcmp, oDup, oDup2, oDupX1, oPop, bIc, bI0, bNul, getI, getR, putI, putZ, putR, aLen, aldI, aldZ, aldJ, aldR, astI, astZ, astJ, astR, nwO, nwA, gsT, oObj, oCpy, oCln, oCst, rtI, rtZ, rtR, rtV, thr, call, callH, ac_hsel, ac_as, ac_rs, ac_cs, ac_rcv, List.map_cons, List.map_nil, List.length_cons, List.length_nil, List.replicate, List.append_nil, List.cons_append, List.nil_append, List.getElem?_cons_zero, List.getElem?_cons_succ, List.set, Nat.zero_add, Nat.add_zero, Nat.le_refl, Nat.reduceAdd, Nat.reduceSub, Nat.reduceLeDiff, Int.reduceLT, Int.reduceLE, Int.reduceNeg, Int.reduceEq, true_and, and_true, true_or, or_true, not_true_eq_false, not_false_eq_true, false_implies, true_implies, implies_true, reduceIte, and_self, Int.reduceAdd, Int.reduceMul, Int.reduceSub, eq_self, Int.add_zero, Int.zero_add, String.reduceEq, Nat.zero_le, Option.some.injEq, Sum.inl.injEq, Sum.inr.injEq, reduceCtorEq, Int.reduceToNat, Option.toList_some, Option.toList_none, ac_cs, ac_c10, ac_c11, ac_c12, ac_c13, ac_c14, ac_c15, ac_c16, ac_c17, sc_E, sh_E, sc_I, sh_I, sc_II, sh_II, sc_III, sh_III, sc_R, sh_R, sc_RI, sh_RI, sc_RII, sh_RII, sc_RIII, sh_RIII, sc_RIIII, sh_RIIII, sc_RR, sh_RR, sc_RRI, sh_RRI, sc_RRR, sh_RRR, sc_RIR, sh_RIR, sc_RIRI, sh_RIRI, sc_RRII, sh_RRII, sc_RRIII, sh_RRIII, sc_RIIRR, sh_RIIRR, sc_RIIIRR, sh_RIIIRR, sc_RIIR, sh_RIIR, sc_RRIIR, sh_RRIIR, sc_RRIIIR, sh_RRIIIR, sc_RRIIIIR, sh_RRIIIIR, sc_RRIR, sh_RRIR, h1, hC]
    refine ⟨?_, ?_⟩
    · rintro v h' ⟨rfl, d0, d1, rfl⟩
      simp only [ac_ent, ldI, ldR, stI, stR, inc, cI, cJ, cN, bop, oAdd, oSub, oMul, oAnd, oOr, oXor, oShl, oShr, oUshr, oRem, oDiv, oMx, oMn, oI2l, oLcmp, oDup, oDup2, oDupX1, oPop, bIc, bI0, bNul, getI, getR, putI, putZ, putR, aLen, aldI, aldZ, aldJ, aldR, astI, astZ, astJ, astR, nwO, nwA, gsT, oObj, oCpy, oCln, oCst, rtI, rtZ, rtR, rtV, thr, call, callH, ac_hsel, ac_as, ac_rs, ac_cs, ac_rcv, List.map_cons, List.map_nil, List.length_cons, List.length_nil, List.replicate, List.append_nil, List.cons_append, List.nil_append, List.getElem?_cons_zero, List.getElem?_cons_succ, List.set, Nat.zero_add, Nat.add_zero, Nat.le_refl, Nat.reduceAdd, Nat.reduceSub, Nat.reduceLeDiff, Int.reduceLT, Int.reduceLE, Int.reduceNeg, Int.reduceEq, true_and, and_true, true_or, or_true, not_true_eq_false, not_false_eq_true, false_implies, true_implies, implies_true, reduceIte, and_self, Int.reduceAdd, Int.reduceMul, Int.reduceSub, eq_self, Int.add_zero, Int.zero_add, String.reduceEq, Nat.zero_le, Option.some.injEq, Sum.inl.injEq, Sum.inr.injEq, reduceCtorEq, Int.reduceToNat, Option.toList_some, Option.toList_none, ac_cs, ac_c10, ac_c11, ac_c12, ac_c13, ac_c14, ac_c15, ac_c16, ac_c17, sc_E, sh_E, sc_I, sh_I, sc_II, sh_II, sc_III, sh_III, sc_R, sh_R, sc_RI, sh_RI, sc_RII, sh_RII, sc_RIII, sh_RIII, sc_RIIII, sh_RIIII, sc_RR, sh_RR, sc_RRI, sh_RRI, sc_RRR, sh_RRR, sc_RIR, sh_RIR, sc_RIRI, sh_RIRI, sc_RRII, sh_RRII, sc_RRIII, sh_RRIII, sc_RIIRR, sh_RIIRR, sc_RIIIRR, sh_RIIIRR, sc_RIIR, sh_RIIR, sc_RRIIR, sh_RRIIR, sc_RRIIIR, sh_RRIIIR, sc_RRIIIIR, sh_RRIIIIR, sc_RRIR, sh_RRIR]
      refine ⟨fun q => ⟨60, by omega, 0, none, by omega, by omega, by omega, ⟨d0, d1, q⟩, fun _ _ _ _ z z0 z1 => by omega, rfl, rfl, rfl, rfl, rfl⟩, fun q => ?_⟩
      intro ad s hR hS
      have e := (RC_90 hR).2.2.2.2.1
      have cd : cdRanked d kk s = 2 := by rw [cdRanked, if_pos ⟨d0, by omega⟩, if_neg q]
      rw [cd]
      exact ⟨by decide, rfl, okS_rf hR⟩
    · rintro E h' ⟨rfl, rfl, q⟩ ad s hR hS
      have e := (RC_90 hR).2.2.2.2.1
      have cd : cdRanked d kk s = 1 := by rw [cdRanked, if_neg (by omega)]
      rw [cd]
      exact ⟨by decide, rfl, okS_rf hR⟩
  | 1, hI =>
    obtain ⟨i, o4, i0, i1, hm, hk, hz, rfl, rfl, rfl, rfl, rfl⟩ := hI
    simp only [spX8_ranked, vcX8_ranked, mX8_ranked, spX8_existingDungeon, spX7_isRankedIn, spX8_countAhead, ac_ent, ldI, ldR, stI, stR, inc, cI, cJ, cN, bop, oAdd, oSub, oMul, oAnd, oOr, oXor, oShl, oShr, oUshr, oRem, oDiv, oMx, oMn, oI2l, oLcmp, oDup, oDup2, oDupX1, oPop, bIc, bI0, bNul, getI, getR, putI, putZ, putR, aLen, aldI, aldZ, aldJ, aldR, astI, astZ, astJ, astR, nwO, nwA, gsT, oObj, oCpy, oCln, oCst, rtI, rtZ, rtR, rtV, thr, call, callH, ac_hsel, ac_as, ac_rs, ac_cs, ac_rcv, List.map_cons, List.map_nil, List.length_cons, List.length_nil, List.replicate, List.append_nil, List.cons_append, List.nil_append, List.getElem?_cons_zero, List.getElem?_cons_succ, List.set, Nat.zero_add, Nat.add_zero, Nat.le_refl, Nat.reduceAdd, Nat.reduceSub, Nat.reduceLeDiff, Int.reduceLT, Int.reduceLE, Int.reduceNeg, Int.reduceEq, true_and, and_true, true_or, or_true, not_true_eq_false, not_false_eq_true, false_implies, true_implies, implies_true, reduceIte, and_self, Int.reduceAdd, Int.reduceMul, Int.reduceSub, eq_self, Int.add_zero, Int.zero_add, String.reduceEq, Nat.zero_le, Option.some.injEq, Sum.inl.injEq, Sum.inr.injEq, reduceCtorEq, Int.reduceToNat, Option.toList_some, Option.toList_none, ac_cs, ac_c10, ac_c11, ac_c12, ac_c13, ac_c14, ac_c15, ac_c16, ac_c17, sc_E, sh_E, sc_I, sh_I, sc_II, sh_II, sc_III, sh_III, sc_R, sh_R, sc_RI, sh_RI, sc_RII, sh_RII, sc_RIII, sh_RIII, sc_RIIII, sh_RIIII, sc_RR, sh_RR, sc_RRI, sh_RRI, sc_RRR, sh_RRR, sc_RIR, sh_RIR, sc_RIRI, sh_RIRI, sc_RRII, sh_RRII, sc_RRIII, sh_RRIII, sc_RIIRR, sh_RIIRR, sc_RIIIRR, sh_RIIIRR, sc_RIIR, sh_RIIR, sc_RRIIR, sh_RRIIR, sc_RRIIIR, sh_RRIIIR, sc_RRIIIIR, sh_RRIIIIR, sc_RRIR, sh_RRIR, h1, k1, k2]
    refine ⟨fun q => ?_, fun q => ⟨⟨by omega, by omega⟩, ?_⟩⟩
    · intro ad s hR hS
      obtain ⟨z6, z7, z8, z9, z11, z18⟩ := RC_90 hR
      refine ⟨by rw [cdRanked, if_pos ⟨hk.1, by omega⟩, if_pos hk.2.2], ?_, okS_rf hR⟩
      rw [vlRanked, fnd_none]
      intro z z0 z1
      exact hz ad s hR hS z z0 (by omega)
    obtain ⟨r2, e1, e2, e3, e4, e5, e6, e7, e8, e9, e10, e11, e12, e13, e14, e15, e16⟩ := RC_rn hR hS i0 (by omega)
    have g1 : g 0 (g 17 (g 908 x 0) i) 0 = 27 := by rw [e2]; exact e4
    have g2 : g 0 (g 803 (g 17 (g 908 x 0) i) 0) 0 = 22 := by rw [e2, e8]; exact e15
    have g3 : 0 < g 17 (g 908 x 0) i := by rw [e2]; exact e3
    have nxt : (∀ ad s, RC g x ad s → SI s → rkP s d kk i = false) → ∀ o, ∃ m', m' < m ∧ ivX8_ranked x d kk g 1 m' [some (.inr (.inl x)), some (.inl d), some (.inl kk), some (.inl (wr (i + 1))), o] [] g 1 6 := fun hn o => by
      refine ⟨(60 - (i + 1)).toNat, by omega, i + 1, o, by omega, by omega, by omega, hk, fun ad s hR hS z z0 z1 => ?_, by simp (disch := omega) only [wr_of], rfl, rfl, rfl, rfl⟩
      by_cases e : z = i
      · rw [e]; exact hn ad s hR hS
      · exact hz ad s hR hS z z0 (by omega)
    refine ⟨fun e => by omega, fun e => ?_⟩
    simp only [g1, g2, ac_ent, ldI, ldR, stI, stR, inc, cI, cJ, cN, bop, oAdd, oSub, oMul, oAnd, oOr, oXor, oShl, oShr, oUshr, oRem, oDiv, oMx, oMn, oI2l, oLcmp, oDup, oDup2, oDupX1, oPop, bIc, bI0, bNul, getI, getR, putI, putZ, putR, aLen, aldI, aldZ, aldJ, aldR, astI, astZ, astJ, astR, nwO, nwA, gsT, oObj, oCpy, oCln, oCst, rtI, rtZ, rtR, rtV, thr, call, callH, ac_hsel, ac_as, ac_rs, ac_cs, ac_rcv, List.map_cons, List.map_nil, List.length_cons, List.length_nil, List.replicate, List.append_nil, List.cons_append, List.nil_append, List.getElem?_cons_zero, List.getElem?_cons_succ, List.set, Nat.zero_add, Nat.add_zero, Nat.le_refl, Nat.reduceAdd, Nat.reduceSub, Nat.reduceLeDiff, Int.reduceLT, Int.reduceLE, Int.reduceNeg, Int.reduceEq, true_and, and_true, true_or, or_true, not_true_eq_false, not_false_eq_true, false_implies, true_implies, implies_true, reduceIte, and_self, Int.reduceAdd, Int.reduceMul, Int.reduceSub, eq_self, Int.add_zero, Int.zero_add, String.reduceEq, Nat.zero_le, Option.some.injEq, Sum.inl.injEq, Sum.inr.injEq, reduceCtorEq, Int.reduceToNat, Option.toList_some, Option.toList_none, ac_cs, ac_c10, ac_c11, ac_c12, ac_c13, ac_c14, ac_c15, ac_c16, ac_c17, sc_E, sh_E, sc_I, sh_I, sc_II, sh_II, sc_III, sh_III, sc_R, sh_R, sc_RI, sh_RI, sc_RII, sh_RII, sc_RIII, sh_RIII, sc_RIIII, sh_RIIII, sc_RR, sh_RR, sc_RRI, sh_RRI, sc_RRR, sh_RRR, sc_RIR, sh_RIR, sc_RIRI, sh_RIRI, sc_RRII, sh_RRII, sc_RRIII, sh_RRIII, sc_RIIRR, sh_RIIRR, sc_RIIIRR, sh_RIIIRR, sc_RIIR, sh_RIIR, sc_RRIIR, sh_RRIIR, sc_RRIIIR, sh_RRIIIR, sc_RRIIIIR, sh_RRIIIIR, sc_RRIR, sh_RRIR]
    rintro v h' ⟨rfl, rfl⟩
    simp only [ac_ent, ldI, ldR, stI, stR, inc, cI, cJ, cN, bop, oAdd, oSub, oMul, oAnd, oOr, oXor, oShl, oShr, oUshr, oRem, oDiv, oMx, oMn, oI2l, oLcmp, oDup, oDup2, oDupX1, oPop, bIc, bI0, bNul, getI, getR, putI, putZ, putR, aLen, aldI, aldZ, aldJ, aldR, astI, astZ, astJ, astR, nwO, nwA, gsT, oObj, oCpy, oCln, oCst, rtI, rtZ, rtR, rtV, thr, call, callH, ac_hsel, ac_as, ac_rs, ac_cs, ac_rcv, List.map_cons, List.map_nil, List.length_cons, List.length_nil, List.replicate, List.append_nil, List.cons_append, List.nil_append, List.getElem?_cons_zero, List.getElem?_cons_succ, List.set, Nat.zero_add, Nat.add_zero, Nat.le_refl, Nat.reduceAdd, Nat.reduceSub, Nat.reduceLeDiff, Int.reduceLT, Int.reduceLE, Int.reduceNeg, Int.reduceEq, true_and, and_true, true_or, or_true, not_true_eq_false, not_false_eq_true, false_implies, true_implies, implies_true, reduceIte, and_self, Int.reduceAdd, Int.reduceMul, Int.reduceSub, eq_self, Int.add_zero, Int.zero_add, String.reduceEq, Nat.zero_le, Option.some.injEq, Sum.inl.injEq, Sum.inr.injEq, reduceCtorEq, Int.reduceToNat, Option.toList_some, Option.toList_none, ac_cs, ac_c10, ac_c11, ac_c12, ac_c13, ac_c14, ac_c15, ac_c16, ac_c17, sc_E, sh_E, sc_I, sh_I, sc_II, sh_II, sc_III, sh_III, sc_R, sh_R, sc_RI, sh_RI, sc_RII, sh_RII, sc_RIII, sh_RIII, sc_RIIII, sh_RIIII, sc_RR, sh_RR, sc_RRI, sh_RRI, sc_RRR, sh_RRR, sc_RIR, sh_RIR, sc_RIRI, sh_RIRI, sc_RRII, sh_RRII, sc_RRIII, sh_RRIII, sc_RIIRR, sh_RIIRR, sc_RIIIRR, sh_RIIIRR, sc_RIIR, sh_RIIR, sc_RRIIR, sh_RRIIR, sc_RRIIIR, sh_RRIIIR, sc_RRIIIIR, sh_RRIIIIR, sc_RRIR, sh_RRIR]
    have br : ∀ ad s, RC h' x ad s → SI s → (h' 805 (h' 17 (h' 908 x 0) i) 0 = s 24 i 0 ∧ h' 300 (h' 803 (h' 17 (h' 908 x 0) i) 0) 0 = s 23 i 0 ∧ cnA h' x (h' 17 (h' 908 x 0) i) (h' 909 x 0).toNat = rkS s i) := fun ad s hR hS => by
      obtain ⟨r2, e1, e2, e3, e4, e5, e6, e7, e8, e9, e10, e11, e12, e13, e14, e15, e16⟩ := RC_rn hR hS i0 (by omega)
      exact ⟨by rw [e2, e10], by rw [e2, e8, e16], by rw [e2, RC_rk hR hS i0 (by omega)]⟩
    by_cases c : h' 805 (h' 17 (h' 908 x 0) i) 0 = -1 ∧ h' 300 (h' 803 (h' 17 (h' 908 x 0) i) 0) 0 = d
    · rw [if_pos c]
      refine ⟨fun e => absurd e (by decide), fun _ => ⟨h1, ⟨hC, i, i0, by omega, rfl⟩, ?_⟩⟩
      rintro v g ⟨rfl, rfl⟩
      simp only [ac_ent, ldI, ldR, stI, stR, inc, cI, cJ, cN, bop, oAdd, oSub, oMul, oAnd, oOr, oXor, oShl, oShr, oUshr, oRem, oDiv, oMx, oMn, oI2l, oLcmp, oDup, oDup2, oDupX1, oPop, bIc, bI0, bNul, getI, getR, putI, putZ, putR, aLen, aldI, aldZ, aldJ, aldR, astI, astZ, astJ, astR, nwO, nwA, gsT, oObj, oCpy, oCln, oCst, rtI, rtZ, rtR, rtV, thr, call, callH, ac_hsel, ac_as, ac_rs, ac_cs, ac_rcv, List.map_cons, List.map_nil, List.length_cons, List.length_nil, List.replicate, List.append_nil, List.cons_append, List.nil_append, List.getElem?_cons_zero, List.getElem?_cons_succ, List.set, Nat.zero_add, Nat.add_zero, Nat.le_refl, Nat.reduceAdd, Nat.reduceSub, Nat.reduceLeDiff, Int.reduceLT, Int.reduceLE, Int.reduceNeg, Int.reduceEq, true_and, and_true, true_or, or_true, not_true_eq_false, not_false_eq_true, false_implies, true_implies, implies_true, reduceIte, and_self, Int.reduceAdd, Int.reduceMul, Int.reduceSub, eq_self, Int.add_zero, Int.zero_add, String.reduceEq, Nat.zero_le, Option.some.injEq, Sum.inl.injEq, Sum.inr.injEq, reduceCtorEq, Int.reduceToNat, Option.toList_some, Option.toList_none, ac_cs, ac_c10, ac_c11, ac_c12, ac_c13, ac_c14, ac_c15, ac_c16, ac_c17, sc_E, sh_E, sc_I, sh_I, sc_II, sh_II, sc_III, sh_III, sc_R, sh_R, sc_RI, sh_RI, sc_RII, sh_RII, sc_RIII, sh_RIII, sc_RIIII, sh_RIIII, sc_RR, sh_RR, sc_RRI, sh_RRI, sc_RRR, sh_RRR, sc_RIR, sh_RIR, sc_RIRI, sh_RIRI, sc_RRII, sh_RRII, sc_RRIII, sh_RRIII, sc_RIIRR, sh_RIIRR, sc_RIIIRR, sh_RIIIRR, sc_RIIR, sh_RIIR, sc_RRIIR, sh_RRIIR, sc_RRIIIR, sh_RRIIIR, sc_RRIIIIR, sh_RRIIIIR, sc_RRIR, sh_RRIR]
      refine ⟨fun e => ?_, fun e => nxt (fun ad s hR hS => ?_) _⟩
      · intro ad s hR hS
        obtain ⟨z6, z7, z8, z9, z11, z18⟩ := RC_90 hR
        obtain ⟨b1, b2, b3⟩ := br ad s hR hS
        refine ⟨by rw [cdRanked, if_pos ⟨hk.1, by omega⟩, if_pos hk.2.2], ?_, okS_rf hR⟩
        rw [vlRanked, fnd_some i0 (by omega) ?_ (hz ad s hR hS)]
        rw [b1, b2] at c
        rw [b3] at e
        exact decide_eq_true ⟨c, e⟩
      · obtain ⟨b1, b2, b3⟩ := br ad s hR hS
        rw [b3] at e
        exact decide_eq_false fun q2 => e q2.2
    · rw [if_neg c]
      refine ⟨fun _ => nxt (fun ad s hR hS => ?_) _, fun e => absurd rfl e⟩
      obtain ⟨b1, b2, b3⟩ := br ad s hR hS
      rw [b1, b2] at c
      exact decide_eq_false fun q2 => c q2.1
  | j + 2, hI => exact hI.elim
def cdGlory (p : Int) (_ : sS) : Int := if 0 ≤ p ∧ p < 8 then 0 else 1
def glS (s : sS) (p : Int) : Nat → Int
  | 0 => 0
  | n + 1 => if (s 19 n 0 = p ∧ s 24 n 0 = -1) ∧ rkS s n = 0 then wr (glS s p n + s 22 n 0) else glS s p n
def vlGlory (p : Int) (s : sS) : Int := glS s p (s 18 0 0).toNat
/-- the same, by the heap -/
def glH2 (h : ac_H) (x p : Int) : Nat → Int
  | 0 => 0
  | n + 1 => if (h 801 (rnO h x n) 0 = p ∧ h 805 (rnO h x n) 0 = -1) ∧ cnA h x (rnO h x n) (h 909 x 0).toNat = 0 then wr (glH2 h x p n + h 802 (rnO h x n) 0) else glH2 h x p n
theorem RC_gl {h : ac_H} {x p : Int} {ad s : sS} (hR : RC h x ad s) (hS : SI s) : ∀ n : Nat, (n : Int) ≤ h 909 x 0 → glH2 h x p n = glS s p n
  | 0, _ => rfl
  | n + 1, hn => by
    obtain ⟨r2, e1, e2, e3, e4, e5, e6, e7, e8, e9, e10, e11, e12, e13, e14, e15, e16⟩ := RC_rn hR hS (r := n) (by omega) (by omega)
    rw [glH2, glS, RC_gl hR hS n (by omega), e1, e6, e7, e10, RC_rk hR hS (by omega) (by omega)]
def spX8_glory : ac_Sp := sc_RI (fun x p h => CW h x) (fun x p h v h' => OKc x h h' v (cdGlory p) (vlGlory p) id) (fun x p h E h' => EXc x h h' E (cdGlory p) (fun _ => "java/lang/IndexOutOfBoundsException"))
def ivX8_glory (x p : Int) (h : ac_H) : Nat → Nat → ac_S := fun j m => match j with
  | 0 => fun L S g k nn => m = 1000 ∧ ent0 [some (.inr (.inl x)), some (.inl p), none, none, none] h L S g k nn
  | 1 => fun L S g k nn => ∃ (i : Nat) (o4 : Option ac_V), (i : Int) ≤ h 909 x 0 ∧ m = 60 - i ∧ (0 ≤ p ∧ p < 8) ∧ L = [some (.inr (.inl x)), some (.inl p), some (.inl (glH2 h x p i)), some (.inl i), o4] ∧ S = [] ∧ g = h ∧ k = 1 ∧ nn = 6
  | _ => fun _ _ _ _ _ => False
set_option maxRecDepth 100000 in
set_option maxHeartbeats 4000000 in
theorem mtX8_glory {G : ac_G} {l : Launch} : ac_Met G l yX8_glory mX8_glory 7 112 1 6 spX8_glory := by
  refine ac_meth (pcs := pcX8_glory) (B := fun P X J j => vcX8_glory spX8_requirePlayer spX7_isRanked spX8_countAhead P X J j) (by decide) rfl rfl rfl (fun P X J hJ j => sdX8_glory mtX8_requirePlayer mtX7_isRanked mtX8_countAhead P X J hJ j) (hp_RI (by decide)) fun As h hp => ?_
  obtain ⟨x, p, rfl, hp⟩ := sh_RI_inv hp
  have hC : CW h x := hp
  obtain ⟨ad, s, hR, hS⟩ := hp
  have h1 : h 0 x 0 = 28 := hR.2.1.2.2.1
  obtain ⟨f1, f2, f3, f4, f5, f6, f7, f8, f9, f10, f11, f12, f13, f14, f15, f16, f17, f18, f19, f20, f21, f22, f23, f24, f25, f26, f27, f28, f29⟩ := hR.2.1
  have s18 := hS.2.2.2.2.2.2.2.2.2.2.2.1
  obtain ⟨z6, z7, z8, z9, z11, z18⟩ := RC_90 hR
  have k1 : h 0 (h 908 x 0) 0 = 17 := by rw [f7]; exact f24
  have k2 : h 1 (h 908 x 0) 0 = 60 := by rw [f7]; exact f25
  refine ⟨ivX8_glory x p h, 1000, ⟨rfl, rfl, rfl, rfl, rfl, rfl⟩, fun j m L S g k nn hI => ?_⟩
  match j, hI with
  | 0, hI =>
    obtain ⟨hm, rfl, rfl, rfl, rfl, rfl⟩ := hI
    simp only [spX8_glory, vcX8_glory, mX8_glory, spX8_requirePlayer, spX7_isRanked, spX8_countAhead, ac_ent, ldI, ldR, stI, stR, inc, cI, cJ, cN, bop, oAdd, oSub, oMul, oAnd, oOr, oXor, oShl, oShr, oUshr, oRem, oDiv, oMx, oMn, oI2l, oLcmp, oDup, oDup2, oDupX1, oPop, bIc, bI0, bNul, getI, getR, putI, putZ, putR, aLen, aldI, aldZ, aldJ, aldR, astI, astZ, astJ, astR, nwO, nwA, gsT, oObj, oCpy, oCln, oCst, rtI, rtZ, rtR, rtV, thr, call, callH, ac_hsel, ac_as, ac_rs, ac_cs, ac_rcv, List.map_cons, List.map_nil, List.length_cons, List.length_nil, List.replicate, List.append_nil, List.cons_append, List.nil_append, List.getElem?_cons_zero, List.getElem?_cons_succ, List.set, Nat.zero_add, Nat.add_zero, Nat.le_refl, Nat.reduceAdd, Nat.reduceSub, Nat.reduceLeDiff, Int.reduceLT, Int.reduceLE, Int.reduceNeg, Int.reduceEq, true_and, and_true, true_or, or_true, not_true_eq_false, not_false_eq_true, false_implies, true_implies, implies_true, reduceIte, and_self, Int.reduceAdd, Int.reduceMul, Int.reduceSub, eq_self, Int.add_zero, Int.zero_add, String.reduceEq, Nat.zero_le, Option.some.injEq, Sum.inl.injEq, Sum.inr.injEq, reduceCtorEq, Int.reduceToNat, Option.toList_some, Option.toList_none, ac_cs, ac_c10, ac_c11, ac_c12, ac_c13, ac_c14, ac_c15, ac_c16, ac_c17, sc_E, sh_E, sc_I, sh_I, sc_II, sh_II, sc_III, sh_III, sc_R, sh_R, sc_RI, sh_RI, sc_RII, sh_RII, sc_RIII, sh_RIII, sc_RIIII, sh_RIIII, sc_RR, sh_RR, sc_RRI, sh_RRI, sc_RRR, sh_RRR, sc_RIR, sh_RIR, sc_RIRI, sh_RIRI, sc_RRII, sh_RRII, sc_RRIII, sh_RRIII, sc_RIIRR, sh_RIIRR, sc_RIIIRR, sh_RIIIRR, sc_RIIR, sh_RIIR, sc_RRIIR, sh_RRIIR, sc_RRIIIR, sh_RRIIIR, sc_RRIIIIR, sh_RRIIIIR, sc_RRIR, sh_RRIR, h1, hC]
    refine ⟨?_, ?_⟩
    · rintro v h' ⟨rfl, rfl, p0, p1⟩
      exact ⟨60, by omega, 0, none, by omega, by omega, ⟨p0, p1⟩, rfl, rfl, rfl, rfl, rfl⟩
    · rintro E h' ⟨rfl, rfl, q⟩ ad s hR hS
      have cd : cdGlory p s = 1 := by rw [cdGlory, if_neg q]
      rw [cd]
      exact ⟨by decide, rfl, okS_rf hR⟩
  | 1, hI =>
    obtain ⟨i, o4, i1, hm, hq, rfl, rfl, rfl, rfl, rfl⟩ := hI
    simp only [spX8_glory, vcX8_glory, mX8_glory, spX8_requirePlayer, spX7_isRanked, spX8_countAhead, ac_ent, ldI, ldR, stI, stR, inc, cI, cJ, cN, bop, oAdd, oSub, oMul, oAnd, oOr, oXor, oShl, oShr, oUshr, oRem, oDiv, oMx, oMn, oI2l, oLcmp, oDup, oDup2, oDupX1, oPop, bIc, bI0, bNul, getI, getR, putI, putZ, putR, aLen, aldI, aldZ, aldJ, aldR, astI, astZ, astJ, astR, nwO, nwA, gsT, oObj, oCpy, oCln, oCst, rtI, rtZ, rtR, rtV, thr, call, callH, ac_hsel, ac_as, ac_rs, ac_cs, ac_rcv, List.map_cons, List.map_nil, List.length_cons, List.length_nil, List.replicate, List.append_nil, List.cons_append, List.nil_append, List.getElem?_cons_zero, List.getElem?_cons_succ, List.set, Nat.zero_add, Nat.add_zero, Nat.le_refl, Nat.reduceAdd, Nat.reduceSub, Nat.reduceLeDiff, Int.reduceLT, Int.reduceLE, Int.reduceNeg, Int.reduceEq, true_and, and_true, true_or, or_true, not_true_eq_false, not_false_eq_true, false_implies, true_implies, implies_true, reduceIte, and_self, Int.reduceAdd, Int.reduceMul, Int.reduceSub, eq_self, Int.add_zero, Int.zero_add, String.reduceEq, Nat.zero_le, Option.some.injEq, Sum.inl.injEq, Sum.inr.injEq, reduceCtorEq, Int.reduceToNat, Option.toList_some, Option.toList_none, ac_cs, ac_c10, ac_c11, ac_c12, ac_c13, ac_c14, ac_c15, ac_c16, ac_c17, sc_E, sh_E, sc_I, sh_I, sc_II, sh_II, sc_III, sh_III, sc_R, sh_R, sc_RI, sh_RI, sc_RII, sh_RII, sc_RIII, sh_RIII, sc_RIIII, sh_RIIII, sc_RR, sh_RR, sc_RRI, sh_RRI, sc_RRR, sh_RRR, sc_RIR, sh_RIR, sc_RIRI, sh_RIRI, sc_RRII, sh_RRII, sc_RRIII, sh_RRIII, sc_RIIRR, sh_RIIRR, sc_RIIIRR, sh_RIIIRR, sc_RIIR, sh_RIIR, sc_RRIIR, sh_RRIIR, sc_RRIIIR, sh_RRIIIR, sc_RRIIIIR, sh_RRIIIIR, sc_RRIR, sh_RRIR, h1, k1, k2]
    refine ⟨fun q => ?_, fun q => ⟨⟨by omega, by omega⟩, ?_⟩⟩
    · intro ad s hR hS
      obtain ⟨z6, z7, z8, z9, z11, z18⟩ := RC_90 hR
      refine ⟨by rw [cdGlory, if_pos hq], ?_, okS_rf hR⟩
      rw [RC_gl hR hS i i1, vlGlory, show (s 18 0 0).toNat = i by omega]
    obtain ⟨r2, e1, e2, e3, e4, e5, e6, e7, e8, e9, e10, e11, e12, e13, e14, e15, e16⟩ := RC_rn hR hS (r := i) (by omega) (by omega)
    have g1 : g 0 (g 17 (g 908 x 0) i) 0 = 27 := by rw [e2]; exact e4
    have g3 : 0 < g 17 (g 908 x 0) i := by rw [e2]; exact e3
    have ci : ((i + 1 : Nat) : Int) = (i : Int) + 1 := rfl
    have nxt : ∀ y, glH2 g x p (i + 1) = y → ∀ o, ∃ m', m' < m ∧ ivX8_glory x p g 1 m' [some (.inr (.inl x)), some (.inl p), some (.inl y), some (.inl (wr ((i : Int) + 1))), o] [] g 1 6 := fun y hy o => by
      refine ⟨60 - (i + 1), by omega, i + 1, o, by omega, by omega, hq, by rw [hy, ci]; simp (disch := omega) only [wr_of], rfl, rfl, rfl, rfl⟩
    refine ⟨fun e => by omega, fun e => ?_⟩
    simp only [g1, ac_ent, ldI, ldR, stI, stR, inc, cI, cJ, cN, bop, oAdd, oSub, oMul, oAnd, oOr, oXor, oShl, oShr, oUshr, oRem, oDiv, oMx, oMn, oI2l, oLcmp, oDup, oDup2, oDupX1, oPop, bIc, bI0, bNul, getI, getR, putI, putZ, putR, aLen, aldI, aldZ, aldJ, aldR, astI, astZ, astJ, astR, nwO, nwA, gsT, oObj, oCpy, oCln, oCst, rtI, rtZ, rtR, rtV, thr, call, callH, ac_hsel, ac_as, ac_rs, ac_cs, ac_rcv, List.map_cons, List.map_nil, List.length_cons, List.length_nil, List.replicate, List.append_nil, List.cons_append, List.nil_append, List.getElem?_cons_zero, List.getElem?_cons_succ, List.set, Nat.zero_add, Nat.add_zero, Nat.le_refl, Nat.reduceAdd, Nat.reduceSub, Nat.reduceLeDiff, Int.reduceLT, Int.reduceLE, Int.reduceNeg, Int.reduceEq, true_and, and_true, true_or, or_true, not_true_eq_false, not_false_eq_true, false_implies, true_implies, implies_true, reduceIte, and_self, Int.reduceAdd, Int.reduceMul, Int.reduceSub, eq_self, Int.add_zero, Int.zero_add, String.reduceEq, Nat.zero_le, Option.some.injEq, Sum.inl.injEq, Sum.inr.injEq, reduceCtorEq, Int.reduceToNat, Option.toList_some, Option.toList_none, ac_cs, ac_c10, ac_c11, ac_c12, ac_c13, ac_c14, ac_c15, ac_c16, ac_c17, sc_E, sh_E, sc_I, sh_I, sc_II, sh_II, sc_III, sh_III, sc_R, sh_R, sc_RI, sh_RI, sc_RII, sh_RII, sc_RIII, sh_RIII, sc_RIIII, sh_RIIII, sc_RR, sh_RR, sc_RRI, sh_RRI, sc_RRR, sh_RRR, sc_RIR, sh_RIR, sc_RIRI, sh_RIRI, sc_RRII, sh_RRII, sc_RRIII, sh_RRIII, sc_RIIRR, sh_RIIRR, sc_RIIIRR, sh_RIIIRR, sc_RIIR, sh_RIIR, sc_RRIIR, sh_RRIIR, sc_RRIIIR, sh_RRIIIR, sc_RRIIIIR, sh_RRIIIIR, sc_RRIR, sh_RRIR]
    have no : ¬ ((g 801 (g 17 (g 908 x 0) i) 0 = p ∧ g 805 (g 17 (g 908 x 0) i) 0 = -1) ∧ cnA g x (g 17 (g 908 x 0) i) (g 909 x 0).toNat = 0) → glH2 g x p (i + 1) = glH2 g x p i := fun hn => by
      rw [glH2]; exact if_neg hn
    refine ⟨fun q2 => ?_, fun q2 => nxt _ (no fun q3 => q2 q3.1.1) _⟩
    rintro v h' ⟨rfl, rfl⟩
    simp only [ac_ent, ldI, ldR, stI, stR, inc, cI, cJ, cN, bop, oAdd, oSub, oMul, oAnd, oOr, oXor, oShl, oShr, oUshr, oRem, oDiv, oMx, oMn, oI2l, oLcmp, oDup, oDup2, oDupX1, oPop, bIc, bI0, bNul, getI, getR, putI, putZ, putR, aLen, aldI, aldZ, aldJ, aldR, astI, astZ, astJ, astR, nwO, nwA, gsT, oObj, oCpy, oCln, oCst, rtI, rtZ, rtR, rtV, thr, call, callH, ac_hsel, ac_as, ac_rs, ac_cs, ac_rcv, List.map_cons, List.map_nil, List.length_cons, List.length_nil, List.replicate, List.append_nil, List.cons_append, List.nil_append, List.getElem?_cons_zero, List.getElem?_cons_succ, List.set, Nat.zero_add, Nat.add_zero, Nat.le_refl, Nat.reduceAdd, Nat.reduceSub, Nat.reduceLeDiff, Int.reduceLT, Int.reduceLE, Int.reduceNeg, Int.reduceEq, true_and, and_true, true_or, or_true, not_true_eq_false, not_false_eq_true, false_implies, true_implies, implies_true, reduceIte, and_self, Int.reduceAdd, Int.reduceMul, Int.reduceSub, eq_self, Int.add_zero, Int.zero_add, String.reduceEq, Nat.zero_le, Option.some.injEq, Sum.inl.injEq, Sum.inr.injEq, reduceCtorEq, Int.reduceToNat, Option.toList_some, Option.toList_none, ac_cs, ac_c10, ac_c11, ac_c12, ac_c13, ac_c14, ac_c15, ac_c16, ac_c17, sc_E, sh_E, sc_I, sh_I, sc_II, sh_II, sc_III, sh_III, sc_R, sh_R, sc_RI, sh_RI, sc_RII, sh_RII, sc_RIII, sh_RIII, sc_RIIII, sh_RIIII, sc_RR, sh_RR, sc_RRI, sh_RRI, sc_RRR, sh_RRR, sc_RIR, sh_RIR, sc_RIRI, sh_RIRI, sc_RRII, sh_RRII, sc_RRIII, sh_RRIII, sc_RIIRR, sh_RIIRR, sc_RIIIRR, sh_RIIIRR, sc_RIIR, sh_RIIR, sc_RRIIR, sh_RRIIR, sc_RRIIIR, sh_RRIIIR, sc_RRIIIIR, sh_RRIIIIR, sc_RRIR, sh_RRIR]
    by_cases c : h' 805 (h' 17 (h' 908 x 0) i) 0 = -1
    · rw [if_pos c]
      refine ⟨fun e => absurd e (by decide), fun _ => ⟨h1, ⟨hC, i, by omega, by omega, rfl⟩, ?_⟩⟩
      rintro v g ⟨rfl, rfl⟩
      simp only [g1, ac_ent, ldI, ldR, stI, stR, inc, cI, cJ, cN, bop, oAdd, oSub, oMul, oAnd, oOr, oXor, oShl, oShr, oUshr, oRem, oDiv, oMx, oMn, oI2l, oLcmp, oDup, oDup2, oDupX1, oPop, bIc, bI0, bNul, getI, getR, putI, putZ, putR, aLen, aldI, aldZ, aldJ, aldR, astI, astZ, astJ, astR, nwO, nwA, gsT, oObj, oCpy, oCln, oCst, rtI, rtZ, rtR, rtV, thr, call, callH, ac_hsel, ac_as, ac_rs, ac_cs, ac_rcv, List.map_cons, List.map_nil, List.length_cons, List.length_nil, List.replicate, List.append_nil, List.cons_append, List.nil_append, List.getElem?_cons_zero, List.getElem?_cons_succ, List.set, Nat.zero_add, Nat.add_zero, Nat.le_refl, Nat.reduceAdd, Nat.reduceSub, Nat.reduceLeDiff, Int.reduceLT, Int.reduceLE, Int.reduceNeg, Int.reduceEq, true_and, and_true, true_or, or_true, not_true_eq_false, not_false_eq_true, false_implies, true_implies, implies_true, reduceIte, and_self, Int.reduceAdd, Int.reduceMul, Int.reduceSub, eq_self, Int.add_zero, Int.zero_add, String.reduceEq, Nat.zero_le, Option.some.injEq, Sum.inl.injEq, Sum.inr.injEq, reduceCtorEq, Int.reduceToNat, Option.toList_some, Option.toList_none, ac_cs, ac_c10, ac_c11, ac_c12, ac_c13, ac_c14, ac_c15, ac_c16, ac_c17, sc_E, sh_E, sc_I, sh_I, sc_II, sh_II, sc_III, sh_III, sc_R, sh_R, sc_RI, sh_RI, sc_RII, sh_RII, sc_RIII, sh_RIII, sc_RIIII, sh_RIIII, sc_RR, sh_RR, sc_RRI, sh_RRI, sc_RRR, sh_RRR, sc_RIR, sh_RIR, sc_RIRI, sh_RIRI, sc_RRII, sh_RRII, sc_RRIII, sh_RRIII, sc_RIIRR, sh_RIIRR, sc_RIIIRR, sh_RIIIRR, sc_RIIR, sh_RIIR, sc_RRIIR, sh_RRIIR, sc_RRIIIR, sh_RRIIIR, sc_RRIIIIR, sh_RRIIIIR, sc_RRIR, sh_RRIR]
      refine ⟨fun e => nxt _ ?_ _, fun e => nxt _ (no fun q3 => e q3.2) _⟩
      rw [glH2]
      exact if_pos ⟨⟨q2, c⟩, e⟩
    · rw [if_neg c]
      exact ⟨fun _ => nxt _ (no fun q3 => c q3.1.2) _, fun e => absurd rfl e⟩
  | j + 2, hI => exact hI.elim
