/-! ===== the model: ways asked, a dungeon grown ===== -/
theorem bhd_cg {f g : Int → Int} (h : ∀ r, 0 ≤ r → r < 16 → f r = g r) {r d : Int} (r0 : 0 ≤ r) (r1 : r < 16) : bhd f r d = bhd g r d := by unfold bhd; rw [h r r0 r1]
theorem WD_cf {f g far : Int → Int} {e : Int} (h : ∀ r, 0 ≤ r → r < 16 → f r = g r) (w : WD f e far) : WD g e far := by
  obtain ⟨w1, w2, w3, w4⟩ := w
  refine ⟨w1, w2, fun r d a b c c2 hf hb => ?_, fun r a b hf hr => ?_⟩
  · rw [← bhd_cg h a b] at hb ⊢
    exact w3 r d a b c c2 hf hb
  · obtain ⟨u, d, a1, a2, a3, a4, a5, a6, a7⟩ := w4 r a b hf hr
    exact ⟨u, d, a1, a2, a3, a4, a5, by rw [← bhd_cg h a1 a2]; exact a6, a7⟩
theorem MW_21 {h : ac_H} {m : Int} (hp : MW h m) : ∀ q, 0 ≤ q → q < 3 * tv h m 15 0 → 0 ≤ tv h m 21 q ∧ tv h m 21 q < 16 := by
  obtain ⟨hK, s, hT, hS⟩ := hp
  intro q q0 q1
  have e := hT.2.2.2.1.1
  have := hT.2.2.2.1.2.2.2.1 q q0 (by omega)
  rw [this.2]
  have w := hS.2.2.2.2.2.2.2.2.2.2.1 (q / 3) (q % 3) (by omega) (by omega) (by omega) (by omega)
  rw [show 3 * (q / 3) + q % 3 = q by omega] at w
  exact ⟨w.2.1, w.2.2.1⟩
def spX9_wayTo : ac_Sp := sc_RIII (fun m d f r h => MW h m) (fun m d f r h v h' => OKm m h h' v (cdRm d f r) (vlWay d f r) id) (fun _ _ _ _ _ _ _ => False)
set_option maxRecDepth 100000 in
set_option maxHeartbeats 4000000 in
theorem mtX9_wayTo {G : ac_G} {l : Launch} : ac_Met G l yX9_wayTo mX9_wayTo 4 88 0 0 spX9_wayTo := by
  refine ac_meth1 (pcs := pcX9_wayTo) (B := fun P X J j => vcX9_wayTo spX9_isRoom spX9_holds spX9_entryOf spX9_counts P X J j) (by decide) rfl rfl rfl (fun P X J hJ j => sdX9_wayTo mtX9_isRoom mtX9_holds mtX9_entryOf mtX9_counts P X J hJ j) (hp_RIII (by decide)) fun As h hp => ?_
  obtain ⟨m, d, f, r, rfl, hp⟩ := sh_RIII_inv hp
  simp only [spX9_wayTo, vcX9_wayTo, mX9_wayTo, spX9_isRoom, spX9_holds, spX9_entryOf, spX9_counts, sc_RIII, sh_RIII, ac_ent, ldI, ldR, stI, stR, inc, cI, cJ, cN, bop, oAdd, oSub, oMul, oAnd, oOr, oXor, oShl, oShr, oUshr, oRem, oDiv, oMx, oMn, oI2l, oLcmp, oDup, oDup2, oDupX1, oPop, bIc, bI0, bNul, getI, getR, putI, putZ, putR, aLen, aldI, aldZ, aldJ, aldR, astI, astZ, astJ, astR, nwO, nwA, gsT, oObj, oCpy, oCln, oCst, rtI, rtZ, rtR, rtV, thr, call, callH, ac_hsel, ac_as, ac_rs, ac_cs, ac_rcv, List.map_cons, List.map_nil, List.length_cons, List.length_nil, List.replicate, List.append_nil, List.cons_append, List.nil_append, List.getElem?_cons_zero, List.getElem?_cons_succ, List.set, Nat.zero_add, Nat.add_zero, Nat.le_refl, Nat.reduceAdd, Nat.reduceSub, Nat.reduceLeDiff, Int.reduceLT, Int.reduceLE, Int.reduceNeg, Int.reduceEq, true_and, and_true, true_or, or_true, not_true_eq_false, not_false_eq_true, false_implies, true_implies, implies_true, reduceIte, and_self, Int.reduceAdd, Int.reduceMul, Int.reduceSub, eq_self, Int.add_zero, Int.zero_add, String.reduceEq, Nat.zero_le, Option.some.injEq, Sum.inl.injEq, Sum.inr.injEq, reduceCtorEq, Int.reduceToNat, Option.toList_some, Option.toList_none, ac_cs, ac_c10, ac_c11, ac_c12, ac_c13, ac_c14, ac_c15, ac_c16, ac_c17, sc_E, sh_E, sc_I, sh_I, sc_II, sh_II, sc_III, sh_III, sc_R, sh_R, sc_RI, sh_RI, sc_RII, sh_RII, sc_RIII, sh_RIII, sc_RIIII, sh_RIIII, sc_RR, sh_RR, sc_RRI, sh_RRI, sc_RRR, sh_RRR, sc_RIR, sh_RIR, sc_RIRI, sh_RIRI, sc_RRII, sh_RRII, sc_RRIII, sh_RRIII, sc_RIIRR, sh_RIIRR, sc_RIIIRR, sh_RIIIRR, sc_RIIR, sh_RIIR, sc_RRIIR, sh_RRIIR, sc_RRIIIR, sh_RRIIIR, sc_RRIIIIR, sh_RRIIIIR, sc_RRIR, sh_RRIR]
  have h21 := MW_21 hp
  obtain ⟨T, hM, hI⟩ := MW_I hp
  rw [mt_T hM] at h21
  have hI4 := hI.2.2.2.1
  simp only [mt_k hM, mt_K hM, mt_T hM, hI, ac_ent, ldI, ldR, stI, stR, inc, cI, cJ, cN, bop, oAdd, oSub, oMul, oAnd, oOr, oXor, oShl, oShr, oUshr, oRem, oDiv, oMx, oMn, oI2l, oLcmp, oDup, oDup2, oDupX1, oPop, bIc, bI0, bNul, getI, getR, putI, putZ, putR, aLen, aldI, aldZ, aldJ, aldR, astI, astZ, astJ, astR, nwO, nwA, gsT, oObj, oCpy, oCln, oCst, rtI, rtZ, rtR, rtV, thr, call, callH, ac_hsel, ac_as, ac_rs, ac_cs, ac_rcv, List.map_cons, List.map_nil, List.length_cons, List.length_nil, List.replicate, List.append_nil, List.cons_append, List.nil_append, List.getElem?_cons_zero, List.getElem?_cons_succ, List.set, Nat.zero_add, Nat.add_zero, Nat.le_refl, Nat.reduceAdd, Nat.reduceSub, Nat.reduceLeDiff, Int.reduceLT, Int.reduceLE, Int.reduceNeg, Int.reduceEq, true_and, and_true, true_or, or_true, not_true_eq_false, not_false_eq_true, false_implies, true_implies, implies_true, reduceIte, and_self, Int.reduceAdd, Int.reduceMul, Int.reduceSub, eq_self, Int.add_zero, Int.zero_add, String.reduceEq, Nat.zero_le, Option.some.injEq, Sum.inl.injEq, Sum.inr.injEq, reduceCtorEq, Int.reduceToNat, Option.toList_some, Option.toList_none, ac_cs, ac_c10, ac_c11, ac_c12, ac_c13, ac_c14, ac_c15, ac_c16, ac_c17, sc_E, sh_E, sc_I, sh_I, sc_II, sh_II, sc_III, sh_III, sc_R, sh_R, sc_RI, sh_RI, sc_RII, sh_RII, sc_RIII, sh_RIII, sc_RIIII, sh_RIIII, sc_RR, sh_RR, sc_RRI, sh_RRI, sc_RRR, sh_RRR, sc_RIR, sh_RIR, sc_RIRI, sh_RIRI, sc_RRII, sh_RRII, sc_RRIII, sh_RRIII, sc_RIIRR, sh_RIIRR, sc_RIIIRR, sh_RIIIRR, sc_RIIR, sh_RIIR, sc_RRIIR, sh_RRIIR, sc_RRIIIR, sh_RRIIIR, sc_RRIIIIR, sh_RRIIIIR, sc_RRIR, sh_RRIR]
  rintro v h' ⟨rfl, rfl⟩
  simp only [b01_0, mt_k hM, mt_K hM, mt_T hM, ac_ent, ldI, ldR, stI, stR, inc, cI, cJ, cN, bop, oAdd, oSub, oMul, oAnd, oOr, oXor, oShl, oShr, oUshr, oRem, oDiv, oMx, oMn, oI2l, oLcmp, oDup, oDup2, oDupX1, oPop, bIc, bI0, bNul, getI, getR, putI, putZ, putR, aLen, aldI, aldZ, aldJ, aldR, astI, astZ, astJ, astR, nwO, nwA, gsT, oObj, oCpy, oCln, oCst, rtI, rtZ, rtR, rtV, thr, call, callH, ac_hsel, ac_as, ac_rs, ac_cs, ac_rcv, List.map_cons, List.map_nil, List.length_cons, List.length_nil, List.replicate, List.append_nil, List.cons_append, List.nil_append, List.getElem?_cons_zero, List.getElem?_cons_succ, List.set, Nat.zero_add, Nat.add_zero, Nat.le_refl, Nat.reduceAdd, Nat.reduceSub, Nat.reduceLeDiff, Int.reduceLT, Int.reduceLE, Int.reduceNeg, Int.reduceEq, true_and, and_true, true_or, or_true, not_true_eq_false, not_false_eq_true, false_implies, true_implies, implies_true, reduceIte, and_self, Int.reduceAdd, Int.reduceMul, Int.reduceSub, eq_self, Int.add_zero, Int.zero_add, String.reduceEq, Nat.zero_le, Option.some.injEq, Sum.inl.injEq, Sum.inr.injEq, reduceCtorEq, Int.reduceToNat, Option.toList_some, Option.toList_none, ac_cs, ac_c10, ac_c11, ac_c12, ac_c13, ac_c14, ac_c15, ac_c16, ac_c17, sc_E, sh_E, sc_I, sh_I, sc_II, sh_II, sc_III, sh_III, sc_R, sh_R, sc_RI, sh_RI, sc_RII, sh_RII, sc_RIII, sh_RIII, sc_RIIII, sh_RIIII, sc_RR, sh_RR, sc_RRI, sh_RRI, sc_RRR, sh_RRR, sc_RIR, sh_RIR, sc_RIRI, sh_RIRI, sc_RRII, sh_RRII, sc_RRIII, sh_RRIII, sc_RIIRR, sh_RIIRR, sc_RIIIRR, sh_RIIIRR, sc_RIIR, sh_RIIR, sc_RRIIR, sh_RRIIR, sc_RRIIIR, sh_RRIIIR, sc_RRIIIIR, sh_RRIIIIR, sc_RRIR, sh_RRIR]
  refine ⟨fun e => ?_, fun e => ?_⟩
  · rintro v h' ⟨hm, rfl⟩
    simp only [b01_0, ac_ent, ldI, ldR, stI, stR, inc, cI, cJ, cN, bop, oAdd, oSub, oMul, oAnd, oOr, oXor, oShl, oShr, oUshr, oRem, oDiv, oMx, oMn, oI2l, oLcmp, oDup, oDup2, oDupX1, oPop, bIc, bI0, bNul, getI, getR, putI, putZ, putR, aLen, aldI, aldZ, aldJ, aldR, astI, astZ, astJ, astR, nwO, nwA, gsT, oObj, oCpy, oCln, oCst, rtI, rtZ, rtR, rtV, thr, call, callH, ac_hsel, ac_as, ac_rs, ac_cs, ac_rcv, List.map_cons, List.map_nil, List.length_cons, List.length_nil, List.replicate, List.append_nil, List.cons_append, List.nil_append, List.getElem?_cons_zero, List.getElem?_cons_succ, List.set, Nat.zero_add, Nat.add_zero, Nat.le_refl, Nat.reduceAdd, Nat.reduceSub, Nat.reduceLeDiff, Int.reduceLT, Int.reduceLE, Int.reduceNeg, Int.reduceEq, true_and, and_true, true_or, or_true, not_true_eq_false, not_false_eq_true, false_implies, true_implies, implies_true, reduceIte, and_self, Int.reduceAdd, Int.reduceMul, Int.reduceSub, eq_self, Int.add_zero, Int.zero_add, String.reduceEq, Nat.zero_le, Option.some.injEq, Sum.inl.injEq, Sum.inr.injEq, reduceCtorEq, Int.reduceToNat, Option.toList_some, Option.toList_none, ac_cs, ac_c10, ac_c11, ac_c12, ac_c13, ac_c14, ac_c15, ac_c16, ac_c17, sc_E, sh_E, sc_I, sh_I, sc_II, sh_II, sc_III, sh_III, sc_R, sh_R, sc_RI, sh_RI, sc_RII, sh_RII, sc_RIII, sh_RIII, sc_RIIII, sh_RIIII, sc_RR, sh_RR, sc_RRI, sh_RRI, sc_RRR, sh_RRR, sc_RIR, sh_RIR, sc_RIRI, sh_RIRI, sc_RRII, sh_RRII, sc_RRIII, sh_RRIII, sc_RIIRR, sh_RIIRR, sc_RIIIRR, sh_RIIIRR, sc_RIIR, sh_RIIR, sc_RRIIR, sh_RRIIR, sc_RRIIIR, sh_RRIIIR, sc_RRIIIIR, sh_RRIIIIR, sc_RRIR, sh_RRIR]
    exact OK_e hm (mt_T hM) (by decide) fun s hT hS => if_neg (by rw [hT.2.2.2.1.1] at e; exact e)
  · rintro v h' ⟨hm, rfl⟩
    have e' : ((0 ≤ d ∧ d < T 15 0) ∧ 0 ≤ f ∧ f < 3) ∧ 0 ≤ r ∧ r < 16 := Decidable.not_not.mp e
    have d20 : 0 ≤ d ∧ d < 20 := by omega
    simp only [b01_0, mt_k hm, mt_K hm, mt_T hm, d20, e', ac_ent, ldI, ldR, stI, stR, inc, cI, cJ, cN, bop, oAdd, oSub, oMul, oAnd, oOr, oXor, oShl, oShr, oUshr, oRem, oDiv, oMx, oMn, oI2l, oLcmp, oDup, oDup2, oDupX1, oPop, bIc, bI0, bNul, getI, getR, putI, putZ, putR, aLen, aldI, aldZ, aldJ, aldR, astI, astZ, astJ, astR, nwO, nwA, gsT, oObj, oCpy, oCln, oCst, rtI, rtZ, rtR, rtV, thr, call, callH, ac_hsel, ac_as, ac_rs, ac_cs, ac_rcv, List.map_cons, List.map_nil, List.length_cons, List.length_nil, List.replicate, List.append_nil, List.cons_append, List.nil_append, List.getElem?_cons_zero, List.getElem?_cons_succ, List.set, Nat.zero_add, Nat.add_zero, Nat.le_refl, Nat.reduceAdd, Nat.reduceSub, Nat.reduceLeDiff, Int.reduceLT, Int.reduceLE, Int.reduceNeg, Int.reduceEq, true_and, and_true, true_or, or_true, not_true_eq_false, not_false_eq_true, false_implies, true_implies, implies_true, reduceIte, and_self, Int.reduceAdd, Int.reduceMul, Int.reduceSub, eq_self, Int.add_zero, Int.zero_add, String.reduceEq, Nat.zero_le, Option.some.injEq, Sum.inl.injEq, Sum.inr.injEq, reduceCtorEq, Int.reduceToNat, Option.toList_some, Option.toList_none, ac_cs, ac_c10, ac_c11, ac_c12, ac_c13, ac_c14, ac_c15, ac_c16, ac_c17, sc_E, sh_E, sc_I, sh_I, sc_II, sh_II, sc_III, sh_III, sc_R, sh_R, sc_RI, sh_RI, sc_RII, sh_RII, sc_RIII, sh_RIII, sc_RIIII, sh_RIIII, sc_RR, sh_RR, sc_RRI, sh_RRI, sc_RRR, sh_RRR, sc_RIR, sh_RIR, sc_RIRI, sh_RIRI, sc_RRII, sh_RRII, sc_RRIII, sh_RRIII, sc_RIIRR, sh_RIIRR, sc_RIIIRR, sh_RIIIRR, sc_RIIR, sh_RIIR, sc_RRIIR, sh_RRIIR, sc_RRIIIR, sh_RRIIIR, sc_RRIIIIR, sh_RRIIIIR, sc_RRIR, sh_RRIR]
    rintro v h1 ⟨rfl, rfl⟩
    have z21 : tu T 0 0 0 21 = T 21 := tu_k (by decide)
    have z18 : tu T 0 0 0 18 = T 18 := tu_k (by decide)
    simp (disch := omega) only [wr_of, z21]
    have eb : 0 ≤ (if f = 0 then (0 : Int) else T 21 (3 * d + f - 1)) ∧ (if f = 0 then (0 : Int) else T 21 (3 * d + f - 1)) < 16 := by
      by_cases c : f = 0
      · rw [if_pos c]; omega
      · rw [if_neg c]; exact h21 _ (by omega) (by omega)
    have bb : 0 ≤ 16 * (3 * d + f) ∧ 16 * (3 * d + f) ≤ 944 := by omega
    simp only [mt_k hm, mt_K hm, mt_T hm, eb, bb, z18, ac_ent, ldI, ldR, stI, stR, inc, cI, cJ, cN, bop, oAdd, oSub, oMul, oAnd, oOr, oXor, oShl, oShr, oUshr, oRem, oDiv, oMx, oMn, oI2l, oLcmp, oDup, oDup2, oDupX1, oPop, bIc, bI0, bNul, getI, getR, putI, putZ, putR, aLen, aldI, aldZ, aldJ, aldR, astI, astZ, astJ, astR, nwO, nwA, gsT, oObj, oCpy, oCln, oCst, rtI, rtZ, rtR, rtV, thr, call, callH, ac_hsel, ac_as, ac_rs, ac_cs, ac_rcv, List.map_cons, List.map_nil, List.length_cons, List.length_nil, List.replicate, List.append_nil, List.cons_append, List.nil_append, List.getElem?_cons_zero, List.getElem?_cons_succ, List.set, Nat.zero_add, Nat.add_zero, Nat.le_refl, Nat.reduceAdd, Nat.reduceSub, Nat.reduceLeDiff, Int.reduceLT, Int.reduceLE, Int.reduceNeg, Int.reduceEq, true_and, and_true, true_or, or_true, not_true_eq_false, not_false_eq_true, false_implies, true_implies, implies_true, reduceIte, and_self, Int.reduceAdd, Int.reduceMul, Int.reduceSub, eq_self, Int.add_zero, Int.zero_add, String.reduceEq, Nat.zero_le, Option.some.injEq, Sum.inl.injEq, Sum.inr.injEq, reduceCtorEq, Int.reduceToNat, Option.toList_some, Option.toList_none, ac_cs, ac_c10, ac_c11, ac_c12, ac_c13, ac_c14, ac_c15, ac_c16, ac_c17, sc_E, sh_E, sc_I, sh_I, sc_II, sh_II, sc_III, sh_III, sc_R, sh_R, sc_RI, sh_RI, sc_RII, sh_RII, sc_RIII, sh_RIII, sc_RIIII, sh_RIIII, sc_RR, sh_RR, sc_RRI, sh_RRI, sc_RRR, sh_RRR, sc_RIR, sh_RIR, sc_RIRI, sh_RIRI, sc_RRII, sh_RRII, sc_RRIII, sh_RRIII, sc_RIIRR, sh_RIIRR, sc_RIIIRR, sh_RIIIRR, sc_RIIR, sh_RIIR, sc_RRIIR, sh_RRIIR, sc_RRIIIR, sh_RRIIIR, sc_RRIIIIR, sh_RRIIIIR, sc_RRIR, sh_RRIR]
    rintro v h2 ⟨rfl, T', hx, ho, hw⟩
    simp only [mt_k hx, mr_24 hx, mk_24 hx, ml_24 hx, e', ac_ent, ldI, ldR, stI, stR, inc, cI, cJ, cN, bop, oAdd, oSub, oMul, oAnd, oOr, oXor, oShl, oShr, oUshr, oRem, oDiv, oMx, oMn, oI2l, oLcmp, oDup, oDup2, oDupX1, oPop, bIc, bI0, bNul, getI, getR, putI, putZ, putR, aLen, aldI, aldZ, aldJ, aldR, astI, astZ, astJ, astR, nwO, nwA, gsT, oObj, oCpy, oCln, oCst, rtI, rtZ, rtR, rtV, thr, call, callH, ac_hsel, ac_as, ac_rs, ac_cs, ac_rcv, List.map_cons, List.map_nil, List.length_cons, List.length_nil, List.replicate, List.append_nil, List.cons_append, List.nil_append, List.getElem?_cons_zero, List.getElem?_cons_succ, List.set, Nat.zero_add, Nat.add_zero, Nat.le_refl, Nat.reduceAdd, Nat.reduceSub, Nat.reduceLeDiff, Int.reduceLT, Int.reduceLE, Int.reduceNeg, Int.reduceEq, true_and, and_true, true_or, or_true, not_true_eq_false, not_false_eq_true, false_implies, true_implies, implies_true, reduceIte, and_self, Int.reduceAdd, Int.reduceMul, Int.reduceSub, eq_self, Int.add_zero, Int.zero_add, String.reduceEq, Nat.zero_le, Option.some.injEq, Sum.inl.injEq, Sum.inr.injEq, reduceCtorEq, Int.reduceToNat, Option.toList_some, Option.toList_none, ac_cs, ac_c10, ac_c11, ac_c12, ac_c13, ac_c14, ac_c15, ac_c16, ac_c17, sc_E, sh_E, sc_I, sh_I, sc_II, sh_II, sc_III, sh_III, sc_R, sh_R, sc_RI, sh_RI, sc_RII, sh_RII, sc_RIII, sh_RIII, sc_RIIII, sh_RIIII, sc_RR, sh_RR, sc_RRI, sh_RRI, sc_RRR, sh_RRR, sc_RIR, sh_RIR, sc_RIRI, sh_RIRI, sc_RRII, sh_RRII, sc_RRIII, sh_RRIII, sc_RIIRR, sh_RIIRR, sc_RIIIRR, sh_RIIIRR, sc_RIIR, sh_RIIR, sc_RRIIR, sh_RRIIR, sc_RRIIIR, sh_RRIIIR, sc_RRIIIIR, sh_RRIIIIR, sc_RRIR, sh_RRIR]
    have sc : ∀ k, scr k = false → T' k = T k := fun k hk => by
      rw [ho k (fun q => by subst q; exact absurd hk (by decide)) (fun q => by subst q; exact absurd hk (by decide))]
      exact scr_0 k hk
    refine OK_v (mt_tr hm hx) (mt_T hM) (by rw [ho 0 (by decide) (by decide), tu_s]) fun s hT hS => ⟨?_, ?_, TS_sc sc hT⟩
    · exact if_pos (by have := e'; rw [hT.2.2.2.1.1] at this; exact this)
    · have e15 := hT.2.2.2.1.1
      have hf : ∀ j, 0 ≤ j → j < 16 → ro (T 18) (16 * (3 * d + f)) j = s 14 (3 * d + f) j := fun j j0 j1 => (hT.2.2.2.1.2.2.1 (3 * d + f) j (by omega) (by omega) j0 j1).1
      have he : (if f = 0 then (0 : Int) else T 21 (3 * d + f - 1)) = entS s d f := by
        unfold entS
        by_cases c : f = 0
        · rw [if_pos c, if_pos c]
        · rw [if_neg c, if_neg c]; exact (hT.2.2.2.1.2.2.2.1 (3 * d + f - 1) (by omega) (by omega)).2
      rw [he] at hw
      exact dst_eq (WD_cf hf hw) e'.2.1 e'.2.2
def spX9_way : ac_Sp := sc_RIII (fun m d f r h => MW h m) (fun m d f r h v h' => OKm m h h' v (cdRm d f r) (vlWay d f r) id) (fun _ _ _ _ _ _ _ => False)
theorem OKm_v {m : Int} {h h' : ac_H} {v : Option ac_V} {cd vl : sS → Int} {F : sS → sS} (hW : MW h m) (o : OKm m h h' v cd vl F) : ∃ w, v = some (.inl w) := by
  obtain ⟨hK, s, hT, hS⟩ := hW
  obtain ⟨T', w, -, -, e, -⟩ := o s hT hS
  exact ⟨w, e⟩
set_option maxRecDepth 100000 in
set_option maxHeartbeats 4000000 in
theorem mtX9_way {G : ac_G} {l : Launch} : ac_Met G l yX9_way mX9_way 5 111 0 0 spX9_way := by
  refine ac_meth1 (pcs := pcX9_way) (B := fun P X J j => vcX9_way spX9_wayTo P X J j) (by decide) rfl rfl rfl (fun P X J hJ j => sdX9_way mtX9_wayTo P X J hJ j) (hp_RIII (by decide)) fun As h hp => ?_
  obtain ⟨m, d, f, r, rfl, hp⟩ := sh_RIII_inv hp
  simp only [spX9_way, vcX9_way, mX9_way, spX9_wayTo, sc_RIII, sh_RIII, ac_ent, ldI, ldR, stI, stR, inc, cI, cJ, cN, bop, oAdd, oSub, oMul, oAnd, oOr, oXor, oShl, oShr, oUshr, oRem, oDiv, oMx, oMn, oI2l, oLcmp, oDup, oDup2, oDupX1, oPop, bIc, bI0, bNul, getI, getR, putI, putZ, putR, aLen, aldI, aldZ, aldJ, aldR, astI, astZ, astJ, astR, nwO, nwA, gsT, oObj, oCpy, oCln, oCst, rtI, rtZ, rtR, rtV, thr, call, callH, ac_hsel, ac_as, ac_rs, ac_cs, ac_rcv, List.map_cons, List.map_nil, List.length_cons, List.length_nil, List.replicate, List.append_nil, List.cons_append, List.nil_append, List.getElem?_cons_zero, List.getElem?_cons_succ, List.set, Nat.zero_add, Nat.add_zero, Nat.le_refl, Nat.reduceAdd, Nat.reduceSub, Nat.reduceLeDiff, Int.reduceLT, Int.reduceLE, Int.reduceNeg, Int.reduceEq, true_and, and_true, true_or, or_true, not_true_eq_false, not_false_eq_true, false_implies, true_implies, implies_true, reduceIte, and_self, Int.reduceAdd, Int.reduceMul, Int.reduceSub, eq_self, Int.add_zero, Int.zero_add, String.reduceEq, Nat.zero_le, Option.some.injEq, Sum.inl.injEq, Sum.inr.injEq, reduceCtorEq, Int.reduceToNat, Option.toList_some, Option.toList_none, ac_cs, ac_c10, ac_c11, ac_c12, ac_c13, ac_c14, ac_c15, ac_c16, ac_c17, sc_E, sh_E, sc_I, sh_I, sc_II, sh_II, sc_III, sh_III, sc_R, sh_R, sc_RI, sh_RI, sc_RII, sh_RII, sc_RIII, sh_RIII, sc_RIIII, sh_RIIII, sc_RR, sh_RR, sc_RRI, sh_RRI, sc_RRR, sh_RRR, sc_RIR, sh_RIR, sc_RIRI, sh_RIRI, sc_RRII, sh_RRII, sc_RRIII, sh_RRIII, sc_RIIRR, sh_RIIRR, sc_RIIIRR, sh_RIIIRR, sc_RIIR, sh_RIIR, sc_RRIIR, sh_RRIIR, sc_RRIIIR, sh_RRIIIR, sc_RRIIIIR, sh_RRIIIIR, sc_RRIR, sh_RRIR]
  have hW : MW h m := hp
  simp only [mt_k (mt_0 hW.1), hW, ac_ent, ldI, ldR, stI, stR, inc, cI, cJ, cN, bop, oAdd, oSub, oMul, oAnd, oOr, oXor, oShl, oShr, oUshr, oRem, oDiv, oMx, oMn, oI2l, oLcmp, oDup, oDup2, oDupX1, oPop, bIc, bI0, bNul, getI, getR, putI, putZ, putR, aLen, aldI, aldZ, aldJ, aldR, astI, astZ, astJ, astR, nwO, nwA, gsT, oObj, oCpy, oCln, oCst, rtI, rtZ, rtR, rtV, thr, call, callH, ac_hsel, ac_as, ac_rs, ac_cs, ac_rcv, List.map_cons, List.map_nil, List.length_cons, List.length_nil, List.replicate, List.append_nil, List.cons_append, List.nil_append, List.getElem?_cons_zero, List.getElem?_cons_succ, List.set, Nat.zero_add, Nat.add_zero, Nat.le_refl, Nat.reduceAdd, Nat.reduceSub, Nat.reduceLeDiff, Int.reduceLT, Int.reduceLE, Int.reduceNeg, Int.reduceEq, true_and, and_true, true_or, or_true, not_true_eq_false, not_false_eq_true, false_implies, true_implies, implies_true, reduceIte, and_self, Int.reduceAdd, Int.reduceMul, Int.reduceSub, eq_self, Int.add_zero, Int.zero_add, String.reduceEq, Nat.zero_le, Option.some.injEq, Sum.inl.injEq, Sum.inr.injEq, reduceCtorEq, Int.reduceToNat, Option.toList_some, Option.toList_none, ac_cs, ac_c10, ac_c11, ac_c12, ac_c13, ac_c14, ac_c15, ac_c16, ac_c17, sc_E, sh_E, sc_I, sh_I, sc_II, sh_II, sc_III, sh_III, sc_R, sh_R, sc_RI, sh_RI, sc_RII, sh_RII, sc_RIII, sh_RIII, sc_RIIII, sh_RIIII, sc_RR, sh_RR, sc_RRI, sh_RRI, sc_RRR, sh_RRR, sc_RIR, sh_RIR, sc_RIRI, sh_RIRI, sc_RRII, sh_RRII, sc_RRIII, sh_RRIII, sc_RIIRR, sh_RIIRR, sc_RIIIRR, sh_RIIIRR, sc_RIIR, sh_RIIR, sc_RRIIR, sh_RRIIR, sc_RRIIIR, sh_RRIIIR, sc_RRIIIIR, sh_RRIIIIR, sc_RRIR, sh_RRIR]
  intro v h' ho
  obtain ⟨w, rfl⟩ := OKm_v hW ho
  simp only [ac_ent, ldI, ldR, stI, stR, inc, cI, cJ, cN, bop, oAdd, oSub, oMul, oAnd, oOr, oXor, oShl, oShr, oUshr, oRem, oDiv, oMx, oMn, oI2l, oLcmp, oDup, oDup2, oDupX1, oPop, bIc, bI0, bNul, getI, getR, putI, putZ, putR, aLen, aldI, aldZ, aldJ, aldR, astI, astZ, astJ, astR, nwO, nwA, gsT, oObj, oCpy, oCln, oCst, rtI, rtZ, rtR, rtV, thr, call, callH, ac_hsel, ac_as, ac_rs, ac_cs, ac_rcv, List.map_cons, List.map_nil, List.length_cons, List.length_nil, List.replicate, List.append_nil, List.cons_append, List.nil_append, List.getElem?_cons_zero, List.getElem?_cons_succ, List.set, Nat.zero_add, Nat.add_zero, Nat.le_refl, Nat.reduceAdd, Nat.reduceSub, Nat.reduceLeDiff, Int.reduceLT, Int.reduceLE, Int.reduceNeg, Int.reduceEq, true_and, and_true, true_or, or_true, not_true_eq_false, not_false_eq_true, false_implies, true_implies, implies_true, reduceIte, and_self, Int.reduceAdd, Int.reduceMul, Int.reduceSub, eq_self, Int.add_zero, Int.zero_add, String.reduceEq, Nat.zero_le, Option.some.injEq, Sum.inl.injEq, Sum.inr.injEq, reduceCtorEq, Int.reduceToNat, Option.toList_some, Option.toList_none, ac_cs, ac_c10, ac_c11, ac_c12, ac_c13, ac_c14, ac_c15, ac_c16, ac_c17, sc_E, sh_E, sc_I, sh_I, sc_II, sh_II, sc_III, sh_III, sc_R, sh_R, sc_RI, sh_RI, sc_RII, sh_RII, sc_RIII, sh_RIII, sc_RIIII, sh_RIIII, sc_RR, sh_RR, sc_RRI, sh_RRI, sc_RRR, sh_RRR, sc_RIR, sh_RIR, sc_RIRI, sh_RIRI, sc_RRII, sh_RRII, sc_RRIII, sh_RRIII, sc_RIIRR, sh_RIIRR, sc_RIIIRR, sh_RIIIRR, sc_RIIR, sh_RIIR, sc_RRIIR, sh_RRIIR, sc_RRIIIR, sh_RRIIIR, sc_RRIIIIR, sh_RRIIIIR, sc_RRIR, sh_RRIR]
  exact ho
def spX9_wayByDoors : ac_Sp := sc_RIII (fun m d f r h => MW h m) (fun m d f r h v h' => OKm m h h' v (cdRm d f r) (vlWay d f r) id) (fun _ _ _ _ _ _ _ => False)
set_option maxRecDepth 100000 in
set_option maxHeartbeats 4000000 in
theorem mtX9_wayByDoors {G : ac_G} {l : Launch} : ac_Met G l yX9_wayByDoors mX9_wayByDoors 5 111 0 0 spX9_wayByDoors := by
  refine ac_meth1 (pcs := pcX9_wayByDoors) (B := fun P X J j => vcX9_wayByDoors spX9_wayTo P X J j) (by decide) rfl rfl rfl (fun P X J hJ j => sdX9_wayByDoors mtX9_wayTo P X J hJ j) (hp_RIII (by decide)) fun As h hp => ?_
  obtain ⟨m, d, f, r, rfl, hp⟩ := sh_RIII_inv hp
  simp only [spX9_wayByDoors, vcX9_wayByDoors, mX9_wayByDoors, spX9_wayTo, sc_RIII, sh_RIII, ac_ent, ldI, ldR, stI, stR, inc, cI, cJ, cN, bop, oAdd, oSub, oMul, oAnd, oOr, oXor, oShl, oShr, oUshr, oRem, oDiv, oMx, oMn, oI2l, oLcmp, oDup, oDup2, oDupX1, oPop, bIc, bI0, bNul, getI, getR, putI, putZ, putR, aLen, aldI, aldZ, aldJ, aldR, astI, astZ, astJ, astR, nwO, nwA, gsT, oObj, oCpy, oCln, oCst, rtI, rtZ, rtR, rtV, thr, call, callH, ac_hsel, ac_as, ac_rs, ac_cs, ac_rcv, List.map_cons, List.map_nil, List.length_cons, List.length_nil, List.replicate, List.append_nil, List.cons_append, List.nil_append, List.getElem?_cons_zero, List.getElem?_cons_succ, List.set, Nat.zero_add, Nat.add_zero, Nat.le_refl, Nat.reduceAdd, Nat.reduceSub, Nat.reduceLeDiff, Int.reduceLT, Int.reduceLE, Int.reduceNeg, Int.reduceEq, true_and, and_true, true_or, or_true, not_true_eq_false, not_false_eq_true, false_implies, true_implies, implies_true, reduceIte, and_self, Int.reduceAdd, Int.reduceMul, Int.reduceSub, eq_self, Int.add_zero, Int.zero_add, String.reduceEq, Nat.zero_le, Option.some.injEq, Sum.inl.injEq, Sum.inr.injEq, reduceCtorEq, Int.reduceToNat, Option.toList_some, Option.toList_none, ac_cs, ac_c10, ac_c11, ac_c12, ac_c13, ac_c14, ac_c15, ac_c16, ac_c17, sc_E, sh_E, sc_I, sh_I, sc_II, sh_II, sc_III, sh_III, sc_R, sh_R, sc_RI, sh_RI, sc_RII, sh_RII, sc_RIII, sh_RIII, sc_RIIII, sh_RIIII, sc_RR, sh_RR, sc_RRI, sh_RRI, sc_RRR, sh_RRR, sc_RIR, sh_RIR, sc_RIRI, sh_RIRI, sc_RRII, sh_RRII, sc_RRIII, sh_RRIII, sc_RIIRR, sh_RIIRR, sc_RIIIRR, sh_RIIIRR, sc_RIIR, sh_RIIR, sc_RRIIR, sh_RRIIR, sc_RRIIIR, sh_RRIIIR, sc_RRIIIIR, sh_RRIIIIR, sc_RRIR, sh_RRIR]
  have hW : MW h m := hp
  simp only [mt_k (mt_0 hW.1), hW, ac_ent, ldI, ldR, stI, stR, inc, cI, cJ, cN, bop, oAdd, oSub, oMul, oAnd, oOr, oXor, oShl, oShr, oUshr, oRem, oDiv, oMx, oMn, oI2l, oLcmp, oDup, oDup2, oDupX1, oPop, bIc, bI0, bNul, getI, getR, putI, putZ, putR, aLen, aldI, aldZ, aldJ, aldR, astI, astZ, astJ, astR, nwO, nwA, gsT, oObj, oCpy, oCln, oCst, rtI, rtZ, rtR, rtV, thr, call, callH, ac_hsel, ac_as, ac_rs, ac_cs, ac_rcv, List.map_cons, List.map_nil, List.length_cons, List.length_nil, List.replicate, List.append_nil, List.cons_append, List.nil_append, List.getElem?_cons_zero, List.getElem?_cons_succ, List.set, Nat.zero_add, Nat.add_zero, Nat.le_refl, Nat.reduceAdd, Nat.reduceSub, Nat.reduceLeDiff, Int.reduceLT, Int.reduceLE, Int.reduceNeg, Int.reduceEq, true_and, and_true, true_or, or_true, not_true_eq_false, not_false_eq_true, false_implies, true_implies, implies_true, reduceIte, and_self, Int.reduceAdd, Int.reduceMul, Int.reduceSub, eq_self, Int.add_zero, Int.zero_add, String.reduceEq, Nat.zero_le, Option.some.injEq, Sum.inl.injEq, Sum.inr.injEq, reduceCtorEq, Int.reduceToNat, Option.toList_some, Option.toList_none, ac_cs, ac_c10, ac_c11, ac_c12, ac_c13, ac_c14, ac_c15, ac_c16, ac_c17, sc_E, sh_E, sc_I, sh_I, sc_II, sh_II, sc_III, sh_III, sc_R, sh_R, sc_RI, sh_RI, sc_RII, sh_RII, sc_RIII, sh_RIII, sc_RIIII, sh_RIIII, sc_RR, sh_RR, sc_RRI, sh_RRI, sc_RRR, sh_RRR, sc_RIR, sh_RIR, sc_RIRI, sh_RIRI, sc_RRII, sh_RRII, sc_RRIII, sh_RRIII, sc_RIIRR, sh_RIIRR, sc_RIIIRR, sh_RIIIRR, sc_RIIR, sh_RIIR, sc_RRIIR, sh_RRIIR, sc_RRIIIR, sh_RRIIIR, sc_RRIIIIR, sh_RRIIIIR, sc_RRIR, sh_RRIR]
  intro v h' ho
  obtain ⟨w, rfl⟩ := OKm_v hW ho
  simp only [ac_ent, ldI, ldR, stI, stR, inc, cI, cJ, cN, bop, oAdd, oSub, oMul, oAnd, oOr, oXor, oShl, oShr, oUshr, oRem, oDiv, oMx, oMn, oI2l, oLcmp, oDup, oDup2, oDupX1, oPop, bIc, bI0, bNul, getI, getR, putI, putZ, putR, aLen, aldI, aldZ, aldJ, aldR, astI, astZ, astJ, astR, nwO, nwA, gsT, oObj, oCpy, oCln, oCst, rtI, rtZ, rtR, rtV, thr, call, callH, ac_hsel, ac_as, ac_rs, ac_cs, ac_rcv, List.map_cons, List.map_nil, List.length_cons, List.length_nil, List.replicate, List.append_nil, List.cons_append, List.nil_append, List.getElem?_cons_zero, List.getElem?_cons_succ, List.set, Nat.zero_add, Nat.add_zero, Nat.le_refl, Nat.reduceAdd, Nat.reduceSub, Nat.reduceLeDiff, Int.reduceLT, Int.reduceLE, Int.reduceNeg, Int.reduceEq, true_and, and_true, true_or, or_true, not_true_eq_false, not_false_eq_true, false_implies, true_implies, implies_true, reduceIte, and_self, Int.reduceAdd, Int.reduceMul, Int.reduceSub, eq_self, Int.add_zero, Int.zero_add, String.reduceEq, Nat.zero_le, Option.some.injEq, Sum.inl.injEq, Sum.inr.injEq, reduceCtorEq, Int.reduceToNat, Option.toList_some, Option.toList_none, ac_cs, ac_c10, ac_c11, ac_c12, ac_c13, ac_c14, ac_c15, ac_c16, ac_c17, sc_E, sh_E, sc_I, sh_I, sc_II, sh_II, sc_III, sh_III, sc_R, sh_R, sc_RI, sh_RI, sc_RII, sh_RII, sc_RIII, sh_RIII, sc_RIIII, sh_RIIII, sc_RR, sh_RR, sc_RRI, sh_RRI, sc_RRR, sh_RRR, sc_RIR, sh_RIR, sc_RIRI, sh_RIRI, sc_RRII, sh_RRII, sc_RRIII, sh_RRIII, sc_RIIRR, sh_RIIRR, sc_RIIIRR, sh_RIIIRR, sc_RIIR, sh_RIIR, sc_RRIIR, sh_RRIIR, sc_RRIIIR, sh_RRIIIR, sc_RRIIIIR, sh_RRIIIIR, sc_RRIR, sh_RRIR]
  exact ho
def GA (T' : mT) (d x : Int) (R : Int → Int) (n : Nat) : Prop := ∀ f : Nat, f < n → (∀ j, 0 ≤ j → j < 16 → T' 18 (16 * (3 * d + f) + j) = fD (gxe x R f).1 (gxe x R f).2 R j ∧ T' 19 (16 * (3 * d + f) + j) = fM (gxe x R f).1 (gxe x R f).2 R j) ∧ T' 20 (3 * d + f) = fT (gxe x R f).1 R ∧ T' 21 (3 * d + f) = (gxe x R (f + 1)).2
def GO (T : mT) (d : Int) (T' : mT) (a c : Int) : Prop := (∀ j, ¬ (48 * d ≤ j ∧ j < 48 * d + 16 * a) → T' 18 j = T 18 j ∧ T' 19 j = T 19 j) ∧ (∀ j, ¬ (3 * d ≤ j ∧ j < 3 * d + a) → T' 20 j = T 20 j) ∧ ∀ j, ¬ (3 * d ≤ j ∧ j < 3 * d + c) → T' 21 j = T 21 j
def GH (T : mT) (d : Int) (T' : mT) (n : Int) : Prop := T' 16 = fu (T 16) d (T 8 (T 7 0 - 1)) ∧ (∀ i, 0 ≤ i → i < n → T' 17 (6 * d + i) = T 12 i) ∧ ∀ j, ¬ (6 * d ≤ j ∧ j < 6 * d + n) → T' 17 j = T 17 j
def rR (R : Int → Int) : Prop := (0 ≤ R 0 ∧ R 0 ≤ 20) ∧ (0 ≤ R 1 ∧ R 1 ≤ 20) ∧ (1 ≤ R 2 ∧ R 2 ≤ 9) ∧ 0 ≤ R 3 ∧ R 3 ≤ 20
theorem GH_R {T T' : mT} {d : Int} (h : GH T d T' 6) : T' 17 (6 * d) = T 12 0 ∧ T' 17 (6 * d + 1) = T 12 1 ∧ T' 17 (6 * d + 2) = T 12 2 ∧ T' 17 (6 * d + 3) = T 12 3 := by
  have := h.2.1 0 (by omega) (by omega)
  rw [Int.add_zero] at this
  exact ⟨this, h.2.1 1 (by omega) (by omega), h.2.1 2 (by omega) (by omega), h.2.1 3 (by omega) (by omega)⟩
def spX9_grows : ac_Sp := sc_RI (fun m d h => MK h m ∧ (0 ≤ d ∧ d < 20) ∧ (0 < tv h m 7 0 ∧ tv h m 7 0 ≤ 30) ∧ (0 ≤ tv h m 8 (tv h m 7 0 - 1) ∧ tv h m 8 (tv h m 7 0 - 1) ≤ 65535) ∧ rR (tv h m 12) ∧ (∀ j, 48 * d ≤ j → j < 48 * d + 48 → tv h m 18 j = 0 ∧ tv h m 19 j = 0) ∧ ∀ j, 3 * d ≤ j → j < 3 * d + 3 → tv h m 20 j = 0)
  (fun m d h v h' => v = none ∧ ∃ T', MT h h' m T' ∧ (∀ k, k < 16 ∨ 24 < k → T' k = tv h m k) ∧ GH (tv h m) d T' 6 ∧ GA T' d (tv h m 8 (tv h m 7 0 - 1)) (tv h m 12) 3 ∧ GO (tv h m) d T' 3 3) (fun _ _ _ _ _ => False)
def ivX9_grows (m d : Int) (h : ac_H) (T : mT) : Nat → Nat → ac_S := fun j mm => match j with
  | 0 => fun L S g k z => mm = 5000 ∧ ent0 [some (.inr (.inl m)), some (.inl d), none, none, none, none, none] h L S g k z
  | 1 => fun L S g k z => ∃ (i : Int) (T' : mT), 0 ≤ i ∧ i ≤ 6 ∧ (mm : Int) = 4000 - i ∧ MT h g m T' ∧ (∀ k, k ≠ 16 → k ≠ 17 → T' k = T k) ∧ GH T d T' i ∧ L = [some (.inr (.inl m)), some (.inl d), some (.inl i), none, none, none, none] ∧ S = [] ∧ k = 0 ∧ z = 0
  | 2 => fun L S g k z => ∃ (n : Nat) (T' : mT) (o4 o5 o6 : Option ac_V), n ≤ 3 ∧ mm = (3 - n) * 100 ∧ MT h g m T' ∧ (∀ k, k < 16 ∨ 24 < k → T' k = T k) ∧ GH T d T' 6 ∧ GA T' d (T 8 (T 7 0 - 1)) (T 12) n ∧ GO T d T' n n ∧ T' 22 0 = (gxe (T 8 (T 7 0 - 1)) (T 12) n).1 ∧ L = [some (.inr (.inl m)), some (.inl d), some (.inl (gxe (T 8 (T 7 0 - 1)) (T 12) n).2), some (.inl n), o4, o5, o6] ∧ S = [] ∧ k = 0 ∧ z = 0
  | 3 => fun L S g k z => ∃ (n i : Nat) (T' : mT), n < 3 ∧ i ≤ 15 ∧ mm + i = (3 - n) * 100 - 20 ∧ MT h g m T' ∧ (∀ k, k < 16 ∨ 24 < k → T' k = T k) ∧ GH T d T' 6 ∧ GA T' d (T 8 (T 7 0 - 1)) (T 12) n ∧ GO T d T' (n + 1) n ∧ T' 22 0 = (gxe (T 8 (T 7 0 - 1)) (T 12) (n + 1)).1 ∧ ((∀ j, 0 ≤ j → j < 16 → T' 18 (16 * (3 * d + n) + j) = fD (gxe (T 8 (T 7 0 - 1)) (T 12) n).1 (gxe (T 8 (T 7 0 - 1)) (T 12) n).2 (T 12) j ∧ T' 19 (16 * (3 * d + n) + j) = fM (gxe (T 8 (T 7 0 - 1)) (T 12) n).1 (gxe (T 8 (T 7 0 - 1)) (T 12) n).2 (T 12) j) ∧ T' 20 (3 * d + n) = fT (gxe (T 8 (T 7 0 - 1)) (T 12) n).1 (T 12)) ∧
     WD (fD (gxe (T 8 (T 7 0 - 1)) (T 12) n).1 (gxe (T 8 (T 7 0 - 1)) (T 12) n).2 (T 12)) (gxe (T 8 (T 7 0 - 1)) (T 12) n).2 (T' 24) ∧ L = [some (.inr (.inl m)), some (.inl d), some (.inl (gxe (T 8 (T 7 0 - 1)) (T 12) n).2), some (.inl n), some (.inl (3 * d + n)), some (.inl (fmx (T' 24) i)), some (.inl (i + 1))] ∧ S = [] ∧ k = 0 ∧ z = 0
  | _ => fun _ _ _ _ _ => False
set_option maxRecDepth 100000 in
set_option maxHeartbeats 4000000 in
theorem mtX9_grows {G : ac_G} {l : Launch} : ac_Met G l yX9_grows mX9_grows 4 97 0 0 spX9_grows := by
  refine ac_meth (pcs := pcX9_grows) (B := fun P X J j => vcX9_grows spX9_growsWays spX9_growsRest spX9_counts P X J j) (by decide) rfl rfl rfl (fun P X J hJ j => sdX9_grows mtX9_growsWays mtX9_growsRest mtX9_counts P X J hJ j) (hp_RI (by decide)) fun As h hp => ?_
  obtain ⟨m, d, rfl, hp⟩ := sh_RI_inv hp
  obtain ⟨hK, hd, h7, h8, hR, hz, hz2⟩ := hp
  have hM := mt_0 hK
  obtain ⟨T, hT⟩ : ∃ T, tv h m = T := ⟨_, rfl⟩
  rw [hT] at hM h7 h8 hR hz hz2
  have hs : 0 ≤ T 8 (T 7 0 - 1) ∧ T 8 (T 7 0 - 1) < 65537 := by omega
  refine ⟨ivX9_grows m d h T, 5000, ⟨rfl, rfl, rfl, rfl, rfl, rfl⟩, fun j mm L S g k z hJ => ?_⟩
  match j, hJ with
  | 0, hJ =>
    obtain ⟨hm, rfl, rfl, rfl, rfl, rfl⟩ := hJ
    simp only [spX9_grows, vcX9_grows, mX9_grows, spX9_growsWays, spX9_growsRest, spX9_counts, ac_ent, ldI, ldR, stI, stR, inc, cI, cJ, cN, bop, oAdd, oSub, oMul, oAnd, oOr, oXor, oShl, oShr, oUshr, oRem, oDiv, oMx, oMn, oI2l, oLcmp, oDup, oDup2, oDupX1, oPop, bIc, bI0, bNul, getI, getR, putI, putZ, putR, aLen, aldI, aldZ, aldJ, aldR, astI, astZ, astJ, astR, nwO, nwA, gsT, oObj, oCpy, oCln, oCst, rtI, rtZ, rtR, rtV, thr, call, callH, ac_hsel, ac_as, ac_rs, ac_cs, ac_rcv, List.map_cons, List.map_nil, List.length_cons, List.length_nil, List.replicate, List.append_nil, List.cons_append, List.nil_append, List.getElem?_cons_zero, List.getElem?_cons_succ, List.set, Nat.zero_add, Nat.add_zero, Nat.le_refl, Nat.reduceAdd, Nat.reduceSub, Nat.reduceLeDiff, Int.reduceLT, Int.reduceLE, Int.reduceNeg, Int.reduceEq, true_and, and_true, true_or, or_true, not_true_eq_false, not_false_eq_true, false_implies, true_implies, implies_true, reduceIte, and_self, Int.reduceAdd, Int.reduceMul, Int.reduceSub, eq_self, Int.add_zero, Int.zero_add, String.reduceEq, Nat.zero_le, Option.some.injEq, Sum.inl.injEq, Sum.inr.injEq, reduceCtorEq, Int.reduceToNat, Option.toList_some, Option.toList_none, ac_cs, ac_c10, ac_c11, ac_c12, ac_c13, ac_c14, ac_c15, ac_c16, ac_c17, sc_E, sh_E, sc_I, sh_I, sc_II, sh_II, sc_III, sh_III, sc_R, sh_R, sc_RI, sh_RI, sc_RII, sh_RII, sc_RIII, sh_RIII, sc_RIIII, sh_RIIII, sc_RR, sh_RR, sc_RRI, sh_RRI, sc_RRR, sh_RRR, sc_RIR, sh_RIR, sc_RIRI, sh_RIRI, sc_RRII, sh_RRII, sc_RRIII, sh_RRIII, sc_RIIRR, sh_RIIRR, sc_RIIIRR, sh_RIIIRR, sc_RIIR, sh_RIIR, sc_RRIIR, sh_RRIIR, sc_RRIIIR, sh_RRIIIR, sc_RRIIIIR, sh_RRIIIIR, sc_RRIR, sh_RRIR, mt_k hM, mr_7 hM, mr_8 hM, mk_8 hM, ml_8 hM, mr_16 hM, mk_16 hM, ml_16 hM, hT]
    simp (disch := omega) only [wr_of]
    have hN := mt_a 16 hM (by decide) rfl (j := d) (v := T 8 (T 7 0 - 1))
    refine ⟨by omega, by omega, 4000, by omega, 0, _, by omega, by omega, by omega, hN, fun k a b => tu_k a, ⟨tu_fu, fun i a b => by omega, fun j hj => by rw [tu_k (by decide)]⟩, rfl, rfl, rfl, rfl⟩
  | 1, hJ =>
    obtain ⟨i, T', i0, i1, hm, hN, ho, hG, rfl, rfl, rfl, rfl⟩ := hJ
    have e7 : T' 7 = T 7 := ho 7 (by decide) (by decide)
    have e8 : T' 8 = T 8 := ho 8 (by decide) (by decide)
    have e12 : T' 12 = T 12 := ho 12 (by decide) (by decide)
    simp only [spX9_grows, vcX9_grows, mX9_grows, spX9_growsWays, spX9_growsRest, spX9_counts, ac_ent, ldI, ldR, stI, stR, inc, cI, cJ, cN, bop, oAdd, oSub, oMul, oAnd, oOr, oXor, oShl, oShr, oUshr, oRem, oDiv, oMx, oMn, oI2l, oLcmp, oDup, oDup2, oDupX1, oPop, bIc, bI0, bNul, getI, getR, putI, putZ, putR, aLen, aldI, aldZ, aldJ, aldR, astI, astZ, astJ, astR, nwO, nwA, gsT, oObj, oCpy, oCln, oCst, rtI, rtZ, rtR, rtV, thr, call, callH, ac_hsel, ac_as, ac_rs, ac_cs, ac_rcv, List.map_cons, List.map_nil, List.length_cons, List.length_nil, List.replicate, List.append_nil, List.cons_append, List.nil_append, List.getElem?_cons_zero, List.getElem?_cons_succ, List.set, Nat.zero_add, Nat.add_zero, Nat.le_refl, Nat.reduceAdd, Nat.reduceSub, Nat.reduceLeDiff, Int.reduceLT, Int.reduceLE, Int.reduceNeg, Int.reduceEq, true_and, and_true, true_or, or_true, not_true_eq_false, not_false_eq_true, false_implies, true_implies, implies_true, reduceIte, and_self, Int.reduceAdd, Int.reduceMul, Int.reduceSub, eq_self, Int.add_zero, Int.zero_add, String.reduceEq, Nat.zero_le, Option.some.injEq, Sum.inl.injEq, Sum.inr.injEq, reduceCtorEq, Int.reduceToNat, Option.toList_some, Option.toList_none, ac_cs, ac_c10, ac_c11, ac_c12, ac_c13, ac_c14, ac_c15, ac_c16, ac_c17, sc_E, sh_E, sc_I, sh_I, sc_II, sh_II, sc_III, sh_III, sc_R, sh_R, sc_RI, sh_RI, sc_RII, sh_RII, sc_RIII, sh_RIII, sc_RIIII, sh_RIIII, sc_RR, sh_RR, sc_RRI, sh_RRI, sc_RRR, sh_RRR, sc_RIR, sh_RIR, sc_RIRI, sh_RIRI, sc_RRII, sh_RRII, sc_RRIII, sh_RRIII, sc_RIIRR, sh_RIIRR, sc_RIIIRR, sh_RIIIRR, sc_RIIR, sh_RIIR, sc_RRIIR, sh_RRIIR, sc_RRIIIR, sh_RRIIIR, sc_RRIIIIR, sh_RRIIIIR, sc_RRIR, sh_RRIR, mt_k hN, mr_7 hN, mr_8 hN, mk_8 hN, ml_8 hN, mr_12 hN, mk_12 hN, ml_12 hN, mr_17 hN, mk_17 hN, ml_17 hN, hT, e7, e8, e12]
    simp (disch := omega) only [wr_of]
    refine ⟨fun q => ⟨by omega, ?_⟩, fun q => ⟨by omega, by omega, ?_⟩⟩
    · have : i = 6 := by omega
      subst this
      have hN2 := mt_f 22 hN rfl (v := T 8 (T 7 0 - 1))
      refine ⟨300, by omega, 0, _, none, none, none, by omega, by omega, hN2, fun k a => by rw [tu_k (by omega), ho k (by omega) (by omega)], ?_, fun f hf => by omega, ?_, tu_s, rfl, rfl, rfl, rfl⟩
      · simp only [GH, tu_k, tu_s, ne_eq, Nat.reduceEqDiff, not_false_eq_true]; exact hG
      · simp only [GO, tu_k, tu_s, ne_eq, Nat.reduceEqDiff, not_false_eq_true, ho 18 (by decide) (by decide), ho 19 (by decide) (by decide), ho 20 (by decide) (by decide), ho 21 (by decide) (by decide), and_self, implies_true]
    · have hN2 := mt_a 17 hN (by decide) rfl (j := 6 * d + i) (v := T 12 i)
      refine ⟨mm - 1, by omega, i + 1, _, by omega, by omega, by omega, hN2, fun k a b => by rw [tu_k b, ho k a b], ⟨by rw [tu_k (by decide)]; exact hG.1, fun j j0 j1 => ?_, fun j hj => ?_⟩, rfl, rfl, rfl, rfl⟩
      · by_cases c : j = i
        · rw [c, tu_s]
        · rw [tu_n (by omega)]; exact hG.2.1 j j0 (by omega)
      · rw [tu_n (by omega)]; exact hG.2.2 j (by omega)
  | 2, hJ =>
    obtain ⟨n, T', o4, o5, o6, n1, hm, hN, ho, hG, hA, hO, h22, rfl, rfl, rfl, rfl⟩ := hJ
    obtain ⟨gx, ge⟩ := gxe_r (R := T 12) hs n
    have GE1 : gxe (T 8 (T 7 0 - 1)) (T 12) (n + 1) = (fX (gxe (T 8 (T 7 0 - 1)) (T 12) n).1 (T 12), fS (gxe (T 8 (T 7 0 - 1)) (T 12) n).1 (gxe (T 8 (T 7 0 - 1)) (T 12) n).2 (T 12)) := rfl
    obtain ⟨q0, q1, q2, q3⟩ := GH_R hG
    simp only [spX9_grows, vcX9_grows, mX9_grows, spX9_growsWays, spX9_growsRest, spX9_counts, ac_ent, ldI, ldR, stI, stR, inc, cI, cJ, cN, bop, oAdd, oSub, oMul, oAnd, oOr, oXor, oShl, oShr, oUshr, oRem, oDiv, oMx, oMn, oI2l, oLcmp, oDup, oDup2, oDupX1, oPop, bIc, bI0, bNul, getI, getR, putI, putZ, putR, aLen, aldI, aldZ, aldJ, aldR, astI, astZ, astJ, astR, nwO, nwA, gsT, oObj, oCpy, oCln, oCst, rtI, rtZ, rtR, rtV, thr, call, callH, ac_hsel, ac_as, ac_rs, ac_cs, ac_rcv, List.map_cons, List.map_nil, List.length_cons, List.length_nil, List.replicate, List.append_nil, List.cons_append, List.nil_append, List.getElem?_cons_zero, List.getElem?_cons_succ, List.set, Nat.zero_add, Nat.add_zero, Nat.le_refl, Nat.reduceAdd, Nat.reduceSub, Nat.reduceLeDiff, Int.reduceLT, Int.reduceLE, Int.reduceNeg, Int.reduceEq, true_and, and_true, true_or, or_true, not_true_eq_false, not_false_eq_true, false_implies, true_implies, implies_true, reduceIte, and_self, Int.reduceAdd, Int.reduceMul, Int.reduceSub, eq_self, Int.add_zero, Int.zero_add, String.reduceEq, Nat.zero_le, Option.some.injEq, Sum.inl.injEq, Sum.inr.injEq, reduceCtorEq, Int.reduceToNat, Option.toList_some, Option.toList_none, ac_cs, ac_c10, ac_c11, ac_c12, ac_c13, ac_c14, ac_c15, ac_c16, ac_c17, sc_E, sh_E, sc_I, sh_I, sc_II, sh_II, sc_III, sh_III, sc_R, sh_R, sc_RI, sh_RI, sc_RII, sh_RII, sc_RIII, sh_RIII, sc_RIIII, sh_RIIII, sc_RR, sh_RR, sc_RRI, sh_RRI, sc_RRR, sh_RRR, sc_RIR, sh_RIR, sc_RIRI, sh_RIRI, sc_RRII, sh_RRII, sc_RRIII, sh_RRIII, sc_RIIRR, sh_RIIRR, sc_RIIIRR, sh_RIIIRR, sc_RIIR, sh_RIIR, sc_RRIIR, sh_RRIIR, sc_RRIIIR, sh_RRIIIR, sc_RRIIIIR, sh_RRIIIIR, sc_RRIR, sh_RRIR, mt_k hN, mt_K hN, mt_T hN, h22, gx, ge, hT]
    refine ⟨fun q => ?_, fun q => ?_⟩
    · have : n = 3 := by omega
      subst this
      exact ⟨T', hN, ho, hG, hA, hO⟩
    simp (disch := omega) only [wr_of]
    have bb : 0 ≤ 16 * (3 * d + (n : Int)) ∧ 16 * (3 * d + (n : Int)) ≤ 944 := by omega
    have b16 : 16 * (3 * d + (n : Int)) / 16 = 3 * d + n := by omega
    have zr : ∀ j, 0 ≤ j → j < 16 → T' 18 (16 * (3 * d + (n : Int)) + j) = 0 := fun j j0 j1 => by
      rw [(hO.1 _ (by omega)).1]; exact (hz _ (by omega) (by omega)).1
    refine ⟨⟨bb, zr⟩, ?_⟩
    rintro v h1 ⟨rfl, T1, hN1, o1, x1, r18⟩
    have e17 : T1 17 = T' 17 := o1 17 (by decide) (by decide) (by decide)
    have e19 : T1 19 = T' 19 := o1 19 (by decide) (by decide) (by decide)
    have e20 : T1 20 = T' 20 := o1 20 (by decide) (by decide) (by decide)
    have x30 := xk_r gx 30
    have rl : rlOK T1 d := by
      unfold rlOK
      rw [e17, q0, q1, q2, q3]; exact hR
    have z19 : ∀ j, 0 ≤ j → j < 16 → T1 19 (16 * (3 * d + (n : Int)) + j) = 0 := fun j j0 j1 => by
      rw [e19, (hO.1 _ (by omega)).2]; exact (hz _ (by omega) (by omega)).2
    have z20 : T1 20 (16 * (3 * d + (n : Int)) / 16) = 0 := by
      rw [b16, e20, hO.2.1 _ (by omega)]; exact hz2 _ (by omega) (by omega)
    simp only [mt_k hN1, mt_K hN1, mt_T hN1, x1, x30, hd, bb, ge, rl, z20, ac_ent, ldI, ldR, stI, stR, inc, cI, cJ, cN, bop, oAdd, oSub, oMul, oAnd, oOr, oXor, oShl, oShr, oUshr, oRem, oDiv, oMx, oMn, oI2l, oLcmp, oDup, oDup2, oDupX1, oPop, bIc, bI0, bNul, getI, getR, putI, putZ, putR, aLen, aldI, aldZ, aldJ, aldR, astI, astZ, astJ, astR, nwO, nwA, gsT, oObj, oCpy, oCln, oCst, rtI, rtZ, rtR, rtV, thr, call, callH, ac_hsel, ac_as, ac_rs, ac_cs, ac_rcv, List.map_cons, List.map_nil, List.length_cons, List.length_nil, List.replicate, List.append_nil, List.cons_append, List.nil_append, List.getElem?_cons_zero, List.getElem?_cons_succ, List.set, Nat.zero_add, Nat.add_zero, Nat.le_refl, Nat.reduceAdd, Nat.reduceSub, Nat.reduceLeDiff, Int.reduceLT, Int.reduceLE, Int.reduceNeg, Int.reduceEq, true_and, and_true, true_or, or_true, not_true_eq_false, not_false_eq_true, false_implies, true_implies, implies_true, reduceIte, and_self, Int.reduceAdd, Int.reduceMul, Int.reduceSub, eq_self, Int.add_zero, Int.zero_add, String.reduceEq, Nat.zero_le, Option.some.injEq, Sum.inl.injEq, Sum.inr.injEq, reduceCtorEq, Int.reduceToNat, Option.toList_some, Option.toList_none, ac_cs, ac_c10, ac_c11, ac_c12, ac_c13, ac_c14, ac_c15, ac_c16, ac_c17, sc_E, sh_E, sc_I, sh_I, sc_II, sh_II, sc_III, sh_III, sc_R, sh_R, sc_RI, sh_RI, sc_RII, sh_RII, sc_RIII, sh_RIII, sc_RIIII, sh_RIIII, sc_RR, sh_RR, sc_RRI, sh_RRI, sc_RRR, sh_RRR, sc_RIR, sh_RIR, sc_RIRI, sh_RIRI, sc_RRII, sh_RRII, sc_RRIII, sh_RRIII, sc_RIIRR, sh_RIIRR, sc_RIIIRR, sh_RIIIRR, sc_RIIR, sh_RIIR, sc_RRIIR, sh_RRIIR, sc_RRIIIR, sh_RRIIIR, sc_RRIIIIR, sh_RRIIIIR, sc_RRIR, sh_RRIR]
    refine ⟨z19, ?_⟩
    rintro v h2 ⟨rfl, T2, hN2, o2, x2, s18, s19, s20, s20'⟩
    simp only [mt_k hN2, mt_K hN2, mt_T hN2, bb, ge, ac_ent, ldI, ldR, stI, stR, inc, cI, cJ, cN, bop, oAdd, oSub, oMul, oAnd, oOr, oXor, oShl, oShr, oUshr, oRem, oDiv, oMx, oMn, oI2l, oLcmp, oDup, oDup2, oDupX1, oPop, bIc, bI0, bNul, getI, getR, putI, putZ, putR, aLen, aldI, aldZ, aldJ, aldR, astI, astZ, astJ, astR, nwO, nwA, gsT, oObj, oCpy, oCln, oCst, rtI, rtZ, rtR, rtV, thr, call, callH, ac_hsel, ac_as, ac_rs, ac_cs, ac_rcv, List.map_cons, List.map_nil, List.length_cons, List.length_nil, List.replicate, List.append_nil, List.cons_append, List.nil_append, List.getElem?_cons_zero, List.getElem?_cons_succ, List.set, Nat.zero_add, Nat.add_zero, Nat.le_refl, Nat.reduceAdd, Nat.reduceSub, Nat.reduceLeDiff, Int.reduceLT, Int.reduceLE, Int.reduceNeg, Int.reduceEq, true_and, and_true, true_or, or_true, not_true_eq_false, not_false_eq_true, false_implies, true_implies, implies_true, reduceIte, and_self, Int.reduceAdd, Int.reduceMul, Int.reduceSub, eq_self, Int.add_zero, Int.zero_add, String.reduceEq, Nat.zero_le, Option.some.injEq, Sum.inl.injEq, Sum.inr.injEq, reduceCtorEq, Int.reduceToNat, Option.toList_some, Option.toList_none, ac_cs, ac_c10, ac_c11, ac_c12, ac_c13, ac_c14, ac_c15, ac_c16, ac_c17, sc_E, sh_E, sc_I, sh_I, sc_II, sh_II, sc_III, sh_III, sc_R, sh_R, sc_RI, sh_RI, sc_RII, sh_RII, sc_RIII, sh_RIII, sc_RIIII, sh_RIIII, sc_RR, sh_RR, sc_RRI, sh_RRI, sc_RRR, sh_RRR, sc_RIR, sh_RIR, sc_RIRI, sh_RIRI, sc_RRII, sh_RRII, sc_RRIII, sh_RRIII, sc_RIIRR, sh_RIIRR, sc_RIIIRR, sh_RIIIRR, sc_RIIR, sh_RIIR, sc_RRIIR, sh_RRIIR, sc_RRIIIR, sh_RRIIIR, sc_RRIIIIR, sh_RRIIIIR, sc_RRIR, sh_RRIR]
    rintro v h3 ⟨rfl, T3, hN3, o3, hw⟩
    have R0 : T1 17 (6 * d) = T 12 0 := by rw [e17, q0]
    have R1 : T1 17 (6 * d + 1) = T 12 1 := by rw [e17, q1]
    have R2 : T1 17 (6 * d + 2) = T 12 2 := by rw [e17, q2]
    have R3 : T1 17 (6 * d + 3) = T 12 3 := by rw [e17, q3]
    have y1 : r1x T1 d = xk (gxe (T 8 (T 7 0 - 1)) (T 12) n).1 (30 + 2 * (T 12 0).toNat) := by unfold r1x; rw [x1, R0, xk_xk]
    have y2 : r2x T1 d = xk (gxe (T 8 (T 7 0 - 1)) (T 12) n).1 (30 + 2 * (T 12 0).toNat + 2 * (T 12 1).toNat) := by unfold r2x; rw [y1, R1, xk_xk]
    have y3 : r3x T1 d = fX (gxe (T 8 (T 7 0 - 1)) (T 12) n).1 (T 12) := by unfold r3x fX; rw [y2, R3, xk_xk]
    have D18 : ∀ j, 0 ≤ j → j < 16 → T2 18 (16 * (3 * d + (n : Int)) + j) = fD (gxe (T 8 (T 7 0 - 1)) (T 12) n).1 (gxe (T 8 (T 7 0 - 1)) (T 12) n).2 (T 12) j := fun j j0 j1 => by
      rw [s18.1 j j0 j1]
      unfold r1D fD
      rw [x1, R0]
      exact glD_congr x30 (rwo_ro r18) _ j j0 j1
    have D19 : ∀ j, 0 ≤ j → j < 16 → T2 19 (16 * (3 * d + (n : Int)) + j) = fM (gxe (T 8 (T 7 0 - 1)) (T 12) n).1 (gxe (T 8 (T 7 0 - 1)) (T 12) n).2 (T 12) j := fun j j0 j1 => by
      rw [s19.1 j j0 j1]
      unfold r2M fM
      rw [y1, R1, R2]
    have D20 : T2 20 (3 * d + (n : Int)) = fT (gxe (T 8 (T 7 0 - 1)) (T 12) n).1 (T 12) := by
      rw [b16, y2, R3] at s20
      exact s20
    have d18 : T3 18 = T2 18 := o3 18 (by decide) (by decide)
    have d19 : T3 19 = T2 19 := o3 19 (by decide) (by decide)
    have d20 : T3 20 = T2 20 := o3 20 (by decide) (by decide)
    have d21 : T3 21 = T' 21 := by rw [o3 21 (by decide) (by decide), o2 21 (by decide) (by decide) (by decide) (by decide), o1 21 (by decide) (by decide) (by decide)]
    have d17 : T3 17 = T' 17 := by rw [o3 17 (by decide) (by decide), o2 17 (by decide) (by decide) (by decide) (by decide), e17]
    have d16 : T3 16 = T' 16 := by rw [o3 16 (by decide) (by decide), o2 16 (by decide) (by decide) (by decide) (by decide), o1 16 (by decide) (by decide) (by decide)]
    have f18 : ∀ j, ¬ (16 * (3 * d + (n : Int)) ≤ j ∧ j < 16 * (3 * d + (n : Int)) + 16) → T2 18 j = T' 18 j := fun j hj => by rw [s18.2 j hj, r18.2 j hj]
    have f19 : ∀ j, ¬ (16 * (3 * d + (n : Int)) ≤ j ∧ j < 16 * (3 * d + (n : Int)) + 16) → T2 19 j = T' 19 j := fun j hj => by rw [s19.2 j hj, e19]
    have f20 : ∀ j, j ≠ 3 * d + (n : Int) → T2 20 j = T' 20 j := fun j hj => by rw [s20' j (by rw [b16]; exact hj), e20]
    refine ⟨(3 - n) * 100 - 20, by omega, n, 0, T3, by omega, by omega, by omega, mt_tr hN (mt_tr hN1 (mt_tr hN2 hN3)), fun k a => ?_, ?_, ?_, ?_, ?_, ⟨fun j j0 j1 => ?_, ?_⟩, ?_, rfl, rfl, rfl, rfl⟩
    · rw [o3 k (by omega) (by omega), o2 k (by omega) (by omega) (by omega) (by omega), o1 k (by omega) (by omega) (by omega)]; exact ho k a
    · unfold GH
      rw [d16, d17]; exact hG
    · intro f hf
      obtain ⟨a1, a2, a3⟩ := hA f hf
      refine ⟨fun j j0 j1 => ?_, ?_, ?_⟩
      · rw [d18, d19, f18 _ (by omega), f19 _ (by omega)]; exact a1 j j0 j1
      · rw [d20, f20 _ (by omega)]; exact a2
      · rw [d21]; exact a3
    · refine ⟨fun j hj => ?_, fun j hj => ?_, fun j hj => ?_⟩
      · rw [d18, d19, f18 _ (by omega), f19 _ (by omega)]; exact hO.1 j (by omega)
      · rw [d20, f20 _ (by omega)]; exact hO.2.1 j (by omega)
      · rw [d21]; exact hO.2.2 j hj
    · rw [o3 22 (by decide) (by decide), x2, y3, GE1]
    · rw [d18, d19]; exact ⟨D18 j j0 j1, D19 j j0 j1⟩
    · rw [d20]; exact D20
    · exact WD_cf D18 hw
  | 3, hJ =>
    obtain ⟨n, i, T', n1, i1, hm, hN, ho, hG, hA, hO, h22, ⟨hrow, ht⟩, hw, rfl, rfl, rfl, rfl⟩ := hJ
    obtain ⟨gx, ge⟩ := gxe_r (R := T 12) hs n
    have GE1 : gxe (T 8 (T 7 0 - 1)) (T 12) (n + 1) = (fX (gxe (T 8 (T 7 0 - 1)) (T 12) n).1 (T 12), fS (gxe (T 8 (T 7 0 - 1)) (T 12) n).1 (gxe (T 8 (T 7 0 - 1)) (T 12) n).2 (T 12)) := rfl
    have fr := fmx_r (f := T' 24) i
    simp only [spX9_grows, vcX9_grows, mX9_grows, spX9_growsWays, spX9_growsRest, spX9_counts, ac_ent, ldI, ldR, stI, stR, inc, cI, cJ, cN, bop, oAdd, oSub, oMul, oAnd, oOr, oXor, oShl, oShr, oUshr, oRem, oDiv, oMx, oMn, oI2l, oLcmp, oDup, oDup2, oDupX1, oPop, bIc, bI0, bNul, getI, getR, putI, putZ, putR, aLen, aldI, aldZ, aldJ, aldR, astI, astZ, astJ, astR, nwO, nwA, gsT, oObj, oCpy, oCln, oCst, rtI, rtZ, rtR, rtV, thr, call, callH, ac_hsel, ac_as, ac_rs, ac_cs, ac_rcv, List.map_cons, List.map_nil, List.length_cons, List.length_nil, List.replicate, List.append_nil, List.cons_append, List.nil_append, List.getElem?_cons_zero, List.getElem?_cons_succ, List.set, Nat.zero_add, Nat.add_zero, Nat.le_refl, Nat.reduceAdd, Nat.reduceSub, Nat.reduceLeDiff, Int.reduceLT, Int.reduceLE, Int.reduceNeg, Int.reduceEq, true_and, and_true, true_or, or_true, not_true_eq_false, not_false_eq_true, false_implies, true_implies, implies_true, reduceIte, and_self, Int.reduceAdd, Int.reduceMul, Int.reduceSub, eq_self, Int.add_zero, Int.zero_add, String.reduceEq, Nat.zero_le, Option.some.injEq, Sum.inl.injEq, Sum.inr.injEq, reduceCtorEq, Int.reduceToNat, Option.toList_some, Option.toList_none, ac_cs, ac_c10, ac_c11, ac_c12, ac_c13, ac_c14, ac_c15, ac_c16, ac_c17, sc_E, sh_E, sc_I, sh_I, sc_II, sh_II, sc_III, sh_III, sc_R, sh_R, sc_RI, sh_RI, sc_RII, sh_RII, sc_RIII, sh_RIII, sc_RIIII, sh_RIIII, sc_RR, sh_RR, sc_RRI, sh_RRI, sc_RRR, sh_RRR, sc_RIR, sh_RIR, sc_RIRI, sh_RIRI, sc_RRII, sh_RRII, sc_RRIII, sh_RRIII, sc_RIIRR, sh_RIIRR, sc_RIIIRR, sh_RIIIRR, sc_RIIR, sh_RIIR, sc_RRIIR, sh_RRIIR, sc_RRIIIR, sh_RRIIIR, sc_RRIIIIR, sh_RRIIIIR, sc_RRIR, sh_RRIR, mt_k hN, mr_21 hN, mk_21 hN, ml_21 hN, mr_24 hN, mk_24 hN, ml_24 hN, hT]
    simp (disch := omega) only [wr_of]
    refine ⟨fun q => ⟨by omega, ?_⟩, fun q => ⟨by omega, by omega, fun q2 => ?_, fun q2 => ?_⟩⟩
    · have : i = 15 := by omega
      subst this
      have hN2 := mt_a 21 hN (by decide) rfl (j := 3 * d + (n : Int)) (v := fmx (T' 24) 15)
      have ee : fmx (T' 24) 15 = (gxe (T 8 (T 7 0 - 1)) (T 12) (n + 1)).2 := by
        rw [GE1]
        show _ = fmx _ 15
        exact fmx_congr (fun r r0 r1 => dst_eq hw r0 r1) 15 (by omega)
      refine ⟨(3 - (n + 1)) * 100, by omega, n + 1, _, _, _, _, by omega, by omega, hN2, fun k a => by rw [tu_k (by omega), ho k a], ?_, ?_, ?_, ?_, by rw [ee]; rfl, rfl, rfl, rfl⟩
      · simp only [GH, tu_k, tu_s, ne_eq, Nat.reduceEqDiff, not_false_eq_true]; exact hG
      · intro f hf
        by_cases c : f = n
        · subst c
          simp only [tu_k, tu_s, ne_eq, Nat.reduceEqDiff, not_false_eq_true]
          exact ⟨hrow, ht, ee⟩
        · obtain ⟨a1, a2, a3⟩ := hA f (by omega)
          refine ⟨by simp only [tu_k, tu_s, ne_eq, Nat.reduceEqDiff, not_false_eq_true]; exact a1, by simp only [tu_k, tu_s, ne_eq, Nat.reduceEqDiff, not_false_eq_true]; exact a2, ?_⟩
          rw [tu_n (by omega)]; exact a3
      · refine ⟨by simp only [tu_k, tu_s, ne_eq, Nat.reduceEqDiff, not_false_eq_true]; exact hO.1, by simp only [tu_k, tu_s, ne_eq, Nat.reduceEqDiff, not_false_eq_true]; exact hO.2.1, fun j hj => ?_⟩
        rw [tu_n (by omega)]; exact hO.2.2 j (by omega)
      · simp only [tu_k, tu_s, ne_eq, Nat.reduceEqDiff, not_false_eq_true]; exact h22
    · refine ⟨mm - 1, by omega, n, i + 1, T', n1, by omega, by omega, hN, ho, hG, hA, hO, h22, ⟨hrow, ht⟩, hw, ?_, rfl, rfl, rfl⟩
      rw [fmx, if_neg (by omega)]; rfl
    · refine ⟨mm - 1, by omega, n, i + 1, T', n1, by omega, by omega, hN, ho, hG, hA, hO, h22, ⟨hrow, ht⟩, hw, ?_, rfl, rfl, rfl⟩
      rw [fmx, if_pos (by omega)]; rfl
  | j + 4, hJ => exact hJ.elim
