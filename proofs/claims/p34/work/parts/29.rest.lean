/-! ===== what is left of the small classes ===== -/
def spX6_init : ac_Sp := sc_R (fun a h => 0 < a ∧ h 0 a 0 = 26) (fun a h v h' => v = none ∧ ∃ b, ac_new h b ∧ h' = up (up (up h 0 b 0 10) 1 b 0 16) 700 a 0 b) (fun _ _ _ _ => False)
theorem hvX6_init : hvp spX6_init := fun As h hp => by obtain ⟨a, rfl, hp⟩ := sh_R_inv hp; exact ⟨_, _, rfl, hp.1⟩
set_option maxRecDepth 100000 in
set_option maxHeartbeats 4000000 in
theorem mtX6_init {G : ac_G} {l : Launch} : ac_Met G l yX6_init mX6_init 1 20 1 16 spX6_init := by
  refine ac_meth1 (pcs := pcX6_init) (B := fun P X J j => vcX6_init P X J j) (by decide) rfl rfl rfl (fun P X J hJ j => sdX6_init P X J hJ j) (hp_R (by decide)) fun As h hp => ?_
  obtain ⟨a, rfl, hp⟩ := sh_R_inv hp
  simp only [spX6_init, vcX6_init, mX6_init, sc_R, sh_R, ac_ent, ldI, ldR, stI, stR, inc, cI, cJ, cN, bop, oAdd, oSub, oMul, oAnd, oOr, oXor, oShl, oShr, oUshr, oRem, oDiv, oMx, oMn, oI2l, oLcmp, oDup, oDup2, oDupX1, oPop, bIc, bI0, bNul, getI, getR, putI, putZ, putR, aLen, aldI, aldZ, aldJ, aldR, astI, astZ, astJ, astR, nwO, nwA, gsT, oObj, oCpy, oCln, oCst, rtI, rtZ, rtR, rtV, thr, call, callH, ac_hsel, ac_as, ac_rs, ac_cs, ac_rcv, List.map_cons, List.map_nil, List.length_cons, List.length_nil, List.replicate, List.append_nil, List.cons_append, List.nil_append, List.getElem?_cons_zero, List.getElem?_cons_succ, List.set, Nat.zero_add, Nat.add_zero, Nat.le_refl, Nat.reduceAdd, Nat.reduceSub, Nat.reduceLeDiff, Int.reduceLT, Int.reduceLE, Int.reduceNeg, Int.reduceEq, true_and, and_true, true_or, or_true, not_true_eq_false, not_false_eq_true, false_implies, true_implies, implies_true, reduceIte, and_self, Int.reduceAdd, Int.reduceMul, Int.reduceSub, eq_self, Int.add_zero, Int.zero_add, String.reduceEq, Nat.zero_le, Option.some.injEq, Sum.inl.injEq, Sum.inr.injEq, reduceCtorEq, Int.reduceToNat, Option.toList_some, Option.toList_none, ac_cs, ac_c10, ac_c11, ac_c12, ac_c13, ac_c14, ac_c15, ac_c16, ac_c17, sc_E, sh_E, sc_I, sh_I, sc_II, sh_II, sc_III, sh_III, sc_R, sh_R, sc_RI, sh_RI, sc_RII, sh_RII, sc_RIII, sh_RIII, sc_RIIII, sh_RIIII, sc_RR, sh_RR, sc_RRI, sh_RRI, sc_RRR, sh_RRR, sc_RIR, sh_RIR, sc_RIRI, sh_RIRI, sc_RRII, sh_RRII, sc_RRIII, sh_RRIII, sc_RIIRR, sh_RIIRR, sc_RIIIRR, sh_RIIIRR, sc_RIIR, sh_RIIR, sc_RRIIR, sh_RRIIR, sc_RRIIIR, sh_RRIIIR, sc_RRIIIIR, sh_RRIIIIR, sc_RRIR, sh_RRIR]
  have h1 : h 0 a 0 = 26 := hp.2
  refine ⟨hp.1, ?_⟩
  intro b hb
  have h2 : a ≠ b := new_ne hb (by rw [h1]; decide)
  exact ⟨by simp [up, h1, h2], b, hb, rfl⟩
def spX5_init : ac_Sp := sc_R (fun a h => 0 < a ∧ h 0 a 0 = 25) (fun a h v h' => v = none ∧ ∃ b1 b2 b3, ac_new h b1 ∧ ac_new h b2 ∧ ac_new h b3 ∧ b1 ≠ b2 ∧ b1 ≠ b3 ∧ b2 ≠ b3 ∧ h' = up (up (up (up (up (up (up (up (up h 0 b1 0 16) 1 b1 0 10) 600 a 0 b1) 0 b2 0 10) 1 b2 0 10) 602 a 0 b2) 0 b3 0 10) 1 b3 0 6) 604 a 0 b3) (fun _ _ _ _ => False)
theorem hvX5_init : hvp spX5_init := fun As h hp => by obtain ⟨a, rfl, hp⟩ := sh_R_inv hp; exact ⟨_, _, rfl, hp.1⟩
set_option maxRecDepth 100000 in
set_option maxHeartbeats 4000000 in
theorem mtX5_init {G : ac_G} {l : Launch} : ac_Met G l yX5_init mX5_init 1 20 3 26 spX5_init := by
  refine ac_meth1 (pcs := pcX5_init) (B := fun P X J j => vcX5_init P X J j) (by decide) rfl rfl rfl (fun P X J hJ j => sdX5_init P X J hJ j) (hp_R (by decide)) fun As h hp => ?_
  obtain ⟨a, rfl, hp⟩ := sh_R_inv hp
  simp only [spX5_init, vcX5_init, mX5_init, sc_R, sh_R, ac_ent, ldI, ldR, stI, stR, inc, cI, cJ, cN, bop, oAdd, oSub, oMul, oAnd, oOr, oXor, oShl, oShr, oUshr, oRem, oDiv, oMx, oMn, oI2l, oLcmp, oDup, oDup2, oDupX1, oPop, bIc, bI0, bNul, getI, getR, putI, putZ, putR, aLen, aldI, aldZ, aldJ, aldR, astI, astZ, astJ, astR, nwO, nwA, gsT, oObj, oCpy, oCln, oCst, rtI, rtZ, rtR, rtV, thr, call, callH, ac_hsel, ac_as, ac_rs, ac_cs, ac_rcv, List.map_cons, List.map_nil, List.length_cons, List.length_nil, List.replicate, List.append_nil, List.cons_append, List.nil_append, List.getElem?_cons_zero, List.getElem?_cons_succ, List.set, Nat.zero_add, Nat.add_zero, Nat.le_refl, Nat.reduceAdd, Nat.reduceSub, Nat.reduceLeDiff, Int.reduceLT, Int.reduceLE, Int.reduceNeg, Int.reduceEq, true_and, and_true, true_or, or_true, not_true_eq_false, not_false_eq_true, false_implies, true_implies, implies_true, reduceIte, and_self, Int.reduceAdd, Int.reduceMul, Int.reduceSub, eq_self, Int.add_zero, Int.zero_add, String.reduceEq, Nat.zero_le, Option.some.injEq, Sum.inl.injEq, Sum.inr.injEq, reduceCtorEq, Int.reduceToNat, Option.toList_some, Option.toList_none, ac_cs, ac_c10, ac_c11, ac_c12, ac_c13, ac_c14, ac_c15, ac_c16, ac_c17, sc_E, sh_E, sc_I, sh_I, sc_II, sh_II, sc_III, sh_III, sc_R, sh_R, sc_RI, sh_RI, sc_RII, sh_RII, sc_RIII, sh_RIII, sc_RIIII, sh_RIIII, sc_RR, sh_RR, sc_RRI, sh_RRI, sc_RRR, sh_RRR, sc_RIR, sh_RIR, sc_RIRI, sh_RIRI, sc_RRII, sh_RRII, sc_RRIII, sh_RRIII, sc_RIIRR, sh_RIIRR, sc_RIIIRR, sh_RIIIRR, sc_RIIR, sh_RIIR, sc_RRIIR, sh_RRIIR, sc_RRIIIR, sh_RRIIIR, sc_RRIIIIR, sh_RRIIIIR, sc_RRIR, sh_RRIR]
  obtain ⟨h0, h1⟩ := hp
  refine ⟨h0, fun b1 n1 => ?_⟩
  have a1 : a ≠ b1 := new_ne n1 (by rw [h1]; decide)
  refine ⟨by simp [up, a1, h1], fun b2 n2 => ?_⟩
  obtain ⟨p1, n2⟩ := new_up n2 (by have := n1.1; omega)
  obtain ⟨p2, n2⟩ := new_up n2 (by decide)
  obtain ⟨p3, n2⟩ := new_up n2 (by decide)
  have a2 : a ≠ b2 := fun e => p1 e.symm
  refine ⟨by simp [up, a1, a2, h1], fun b3 n3 => ?_⟩
  obtain ⟨q1, n3⟩ := new_up n3 (by have := n2.1; omega)
  obtain ⟨q2, n3⟩ := new_up n3 (by decide)
  obtain ⟨q3, n3⟩ := new_up n3 (by decide)
  obtain ⟨q4, n3⟩ := new_up n3 (by have := n1.1; omega)
  obtain ⟨q5, n3⟩ := new_up n3 (by decide)
  obtain ⟨q6, n3⟩ := new_up n3 (by decide)
  have a3 : a ≠ b3 := fun e => q1 e.symm
  refine ⟨by simp [up, a1, a2, a3, h1], b1, b2, b3, n1, n2, n3, Ne.symm p2, Ne.symm q5, Ne.symm q2, rfl⟩
def spX5_addPack : ac_Sp := sc_R (fun b h => 0 < b ∧ h 0 b 0 = 25 ∧ 0 ≤ h 601 b 0 ∧ h 601 b 0 ≤ 10 ∧ h 0 (h 600 b 0) 0 = 16 ∧ h 1 (h 600 b 0) 0 = 10) (fun b h v h' => (10 ≤ h 601 b 0 → h' = h ∧ v = some (.inl 0)) ∧ (h 601 b 0 < 10 → v = some (.inl 1) ∧ ∃ p c, ac_new h p ∧ ac_new h c ∧ p ≠ c ∧ h' = up (up (up (up (up (up h 0 p 0 24) 0 c 0 13) 1 c 0 4) 500 p 0 c) 16 (h 600 b 0) (h 601 b 0) p) 601 b 0 (h 601 b 0 + 1))) (fun _ _ _ _ => False)
set_option maxRecDepth 100000 in
set_option maxHeartbeats 4000000 in
theorem mtX5_addPack {G : ac_G} {l : Launch} : ac_Met G l yX5_addPack mX5_addPack 2 40 2 7 spX5_addPack := by
  refine ac_meth1 (pcs := pcX5_addPack) (B := fun P X J j => vcX5_addPack spX4_init P X J j) (by decide) rfl rfl rfl (fun P X J hJ j => sdX5_addPack mtX4_init hvX4_init P X J hJ j) (hp_R (by decide)) fun As h hp => ?_
  obtain ⟨b, rfl, hp⟩ := sh_R_inv hp
  simp only [spX5_addPack, vcX5_addPack, mX5_addPack, spX4_init, sc_R, sh_R, ac_ent, ldI, ldR, stI, stR, inc, cI, cJ, cN, bop, oAdd, oSub, oMul, oAnd, oOr, oXor, oShl, oShr, oUshr, oRem, oDiv, oMx, oMn, oI2l, oLcmp, oDup, oDup2, oDupX1, oPop, bIc, bI0, bNul, getI, getR, putI, putZ, putR, aLen, aldI, aldZ, aldJ, aldR, astI, astZ, astJ, astR, nwO, nwA, gsT, oObj, oCpy, oCln, oCst, rtI, rtZ, rtR, rtV, thr, call, callH, ac_hsel, ac_as, ac_rs, ac_cs, ac_rcv, List.map_cons, List.map_nil, List.length_cons, List.length_nil, List.replicate, List.append_nil, List.cons_append, List.nil_append, List.getElem?_cons_zero, List.getElem?_cons_succ, List.set, Nat.zero_add, Nat.add_zero, Nat.le_refl, Nat.reduceAdd, Nat.reduceSub, Nat.reduceLeDiff, Int.reduceLT, Int.reduceLE, Int.reduceNeg, Int.reduceEq, true_and, and_true, true_or, or_true, not_true_eq_false, not_false_eq_true, false_implies, true_implies, implies_true, reduceIte, and_self, Int.reduceAdd, Int.reduceMul, Int.reduceSub, eq_self, Int.add_zero, Int.zero_add, String.reduceEq, Nat.zero_le, Option.some.injEq, Sum.inl.injEq, Sum.inr.injEq, reduceCtorEq, Int.reduceToNat, Option.toList_some, Option.toList_none, ac_cs, ac_c10, ac_c11, ac_c12, ac_c13, ac_c14, ac_c15, ac_c16, ac_c17, sc_E, sh_E, sc_I, sh_I, sc_II, sh_II, sc_III, sh_III, sc_R, sh_R, sc_RI, sh_RI, sc_RII, sh_RII, sc_RIII, sh_RIII, sc_RIIII, sh_RIIII, sc_RR, sh_RR, sc_RRI, sh_RRI, sc_RRR, sh_RRR, sc_RIR, sh_RIR, sc_RIRI, sh_RIRI, sc_RRII, sh_RRII, sc_RRIII, sh_RRIII, sc_RIIRR, sh_RIIRR, sc_RIIIRR, sh_RIIIRR, sc_RIIR, sh_RIIR, sc_RRIIR, sh_RRIIR, sc_RRIIIR, sh_RRIIIR, sc_RRIIIIR, sh_RRIIIIR, sc_RRIR, sh_RRIR]
  obtain ⟨h0, h1, h2, h3, h4, h5⟩ := hp
  simp only [h1, h4, h5, ac_ent, ldI, ldR, stI, stR, inc, cI, cJ, cN, bop, oAdd, oSub, oMul, oAnd, oOr, oXor, oShl, oShr, oUshr, oRem, oDiv, oMx, oMn, oI2l, oLcmp, oDup, oDup2, oDupX1, oPop, bIc, bI0, bNul, getI, getR, putI, putZ, putR, aLen, aldI, aldZ, aldJ, aldR, astI, astZ, astJ, astR, nwO, nwA, gsT, oObj, oCpy, oCln, oCst, rtI, rtZ, rtR, rtV, thr, call, callH, ac_hsel, ac_as, ac_rs, ac_cs, ac_rcv, List.map_cons, List.map_nil, List.length_cons, List.length_nil, List.replicate, List.append_nil, List.cons_append, List.nil_append, List.getElem?_cons_zero, List.getElem?_cons_succ, List.set, Nat.zero_add, Nat.add_zero, Nat.le_refl, Nat.reduceAdd, Nat.reduceSub, Nat.reduceLeDiff, Int.reduceLT, Int.reduceLE, Int.reduceNeg, Int.reduceEq, true_and, and_true, true_or, or_true, not_true_eq_false, not_false_eq_true, false_implies, true_implies, implies_true, reduceIte, and_self, Int.reduceAdd, Int.reduceMul, Int.reduceSub, eq_self, Int.add_zero, Int.zero_add, String.reduceEq, Nat.zero_le, Option.some.injEq, Sum.inl.injEq, Sum.inr.injEq, reduceCtorEq, Int.reduceToNat, Option.toList_some, Option.toList_none, ac_cs, ac_c10, ac_c11, ac_c12, ac_c13, ac_c14, ac_c15, ac_c16, ac_c17, sc_E, sh_E, sc_I, sh_I, sc_II, sh_II, sc_III, sh_III, sc_R, sh_R, sc_RI, sh_RI, sc_RII, sh_RII, sc_RIII, sh_RIII, sc_RIIII, sh_RIIII, sc_RR, sh_RR, sc_RRI, sh_RRI, sc_RRR, sh_RRR, sc_RIR, sh_RIR, sc_RIRI, sh_RIRI, sc_RRII, sh_RRII, sc_RRIII, sh_RRIII, sc_RIIRR, sh_RIIRR, sc_RIIIRR, sh_RIIIRR, sc_RIIR, sh_RIIR, sc_RRIIR, sh_RRIIR, sc_RRIIIR, sh_RRIIIR, sc_RRIIIIR, sh_RRIIIIR, sc_RRIR, sh_RRIR]
  refine ⟨fun q => ?_, fun q => ?_⟩
  · intro p hp
    have e1 : b ≠ p := new_ne hp (by rw [h1]; decide)
    have e2 : h 600 b 0 ≠ p := new_ne hp (by rw [h4]; decide)
    simp only [up_k, up_self, ne_eq, Nat.reduceEqDiff, not_false_eq_true, ac_ent, ldI, ldR, stI, stR, inc, cI, cJ, cN, bop, oAdd, oSub, oMul, oAnd, oOr, oXor, oShl, oShr, oUshr, oRem, oDiv, oMx, oMn, oI2l, oLcmp, oDup, oDup2, oDupX1, oPop, bIc, bI0, bNul, getI, getR, putI, putZ, putR, aLen, aldI, aldZ, aldJ, aldR, astI, astZ, astJ, astR, nwO, nwA, gsT, oObj, oCpy, oCln, oCst, rtI, rtZ, rtR, rtV, thr, call, callH, ac_hsel, ac_as, ac_rs, ac_cs, ac_rcv, List.map_cons, List.map_nil, List.length_cons, List.length_nil, List.replicate, List.append_nil, List.cons_append, List.nil_append, List.getElem?_cons_zero, List.getElem?_cons_succ, List.set, Nat.zero_add, Nat.add_zero, Nat.le_refl, Nat.reduceAdd, Nat.reduceSub, Nat.reduceLeDiff, Int.reduceLT, Int.reduceLE, Int.reduceNeg, Int.reduceEq, true_and, and_true, true_or, or_true, not_true_eq_false, not_false_eq_true, false_implies, true_implies, implies_true, reduceIte, and_self, Int.reduceAdd, Int.reduceMul, Int.reduceSub, eq_self, Int.add_zero, Int.zero_add, String.reduceEq, Nat.zero_le, Option.some.injEq, Sum.inl.injEq, Sum.inr.injEq, reduceCtorEq, Int.reduceToNat, Option.toList_some, Option.toList_none, ac_cs, ac_c10, ac_c11, ac_c12, ac_c13, ac_c14, ac_c15, ac_c16, ac_c17, sc_E, sh_E, sc_I, sh_I, sc_II, sh_II, sc_III, sh_III, sc_R, sh_R, sc_RI, sh_RI, sc_RII, sh_RII, sc_RIII, sh_RIII, sc_RIIII, sh_RIIII, sc_RR, sh_RR, sc_RRI, sh_RRI, sc_RRR, sh_RRR, sc_RIR, sh_RIR, sc_RIRI, sh_RIRI, sc_RRII, sh_RRII, sc_RRIII, sh_RRIII, sc_RIIRR, sh_RIIRR, sc_RIIIRR, sh_RIIIRR, sc_RIIR, sh_RIIR, sc_RRIIR, sh_RRIIR, sc_RRIIIR, sh_RRIIIR, sc_RRIIIIR, sh_RRIIIIR, sc_RRIR, sh_RRIR]
    refine ⟨hp.1, ?_⟩
    rintro v h' ⟨rfl, c, hc, rfl⟩
    obtain ⟨pc, hc⟩ := new_up hc (by decide)
    have e3 : b ≠ c := new_ne hc (by rw [h1]; decide)
    have e4 : h 600 b 0 ≠ c := new_ne hc (by rw [h4]; decide)
    have e5 : ¬ p = b := fun e => e1 e.symm
    have e6 : ¬ p = h 600 b 0 := fun e => e2 e.symm
    have e7 : ¬ p = c := fun e => pc e.symm
    simp only [ac_ent, ldI, ldR, stI, stR, inc, cI, cJ, cN, bop, oAdd, oSub, oMul, oAnd, oOr, oXor, oShl, oShr, oUshr, oRem, oDiv, oMx, oMn, oI2l, oLcmp, oDup, oDup2, oDupX1, oPop, bIc, bI0, bNul, getI, getR, putI, putZ, putR, aLen, aldI, aldZ, aldJ, aldR, astI, astZ, astJ, astR, nwO, nwA, gsT, oObj, oCpy, oCln, oCst, rtI, rtZ, rtR, rtV, thr, call, callH, ac_hsel, ac_as, ac_rs, ac_cs, ac_rcv, List.map_cons, List.map_nil, List.length_cons, List.length_nil, List.replicate, List.append_nil, List.cons_append, List.nil_append, List.getElem?_cons_zero, List.getElem?_cons_succ, List.set, Nat.zero_add, Nat.add_zero, Nat.le_refl, Nat.reduceAdd, Nat.reduceSub, Nat.reduceLeDiff, Int.reduceLT, Int.reduceLE, Int.reduceNeg, Int.reduceEq, true_and, and_true, true_or, or_true, not_true_eq_false, not_false_eq_true, false_implies, true_implies, implies_true, reduceIte, and_self, Int.reduceAdd, Int.reduceMul, Int.reduceSub, eq_self, Int.add_zero, Int.zero_add, String.reduceEq, Nat.zero_le, Option.some.injEq, Sum.inl.injEq, Sum.inr.injEq, reduceCtorEq, Int.reduceToNat, Option.toList_some, Option.toList_none, ac_cs, ac_c10, ac_c11, ac_c12, ac_c13, ac_c14, ac_c15, ac_c16, ac_c17, sc_E, sh_E, sc_I, sh_I, sc_II, sh_II, sc_III, sh_III, sc_R, sh_R, sc_RI, sh_RI, sc_RII, sh_RII, sc_RIII, sh_RIII, sc_RIIII, sh_RIIII, sc_RR, sh_RR, sc_RRI, sh_RRI, sc_RRR, sh_RRR, sc_RIR, sh_RIR, sc_RIRI, sh_RIRI, sc_RRII, sh_RRII, sc_RRIII, sh_RRIII, sc_RIIRR, sh_RIIRR, sc_RIIIRR, sh_RIIIRR, sc_RIIR, sh_RIIR, sc_RRIIR, sh_RRIIR, sc_RRIIIR, sh_RRIIIR, sc_RRIIIIR, sh_RRIIIIR, sc_RRIR, sh_RRIR]
    refine ⟨⟨by simp [up, e2, e4, h4], h2, by simp [up, e2, e4, h5]; omega, by simp [up, e7]⟩, by simp [up, e1, e3, h1], by simp [up, e1, e3, h1], ?_, ?_⟩
    · intro q2; omega
    · intro _
      refine ⟨p, c, hp, hc, e7, ?_⟩
      rw [wr_of (by simp [up, e1]; omega) (by simp [up, e1]; omega)]
      simp [up_k, up_self]
  · intro q2; omega
def spX2_isBy : ac_Sp := sc_RIR (fun d s a h => h 0 d 0 = 22 ∧ h 0 (h 302 d 0) 0 = 10 ∧ h 1 (h 302 d 0) 0 = 6 ∧ h 0 a 0 = 10 ∧ h 1 a 0 = 6) (fun d s a h v h' => h' = h ∧ ((h 301 d 0 = s ∧ (∀ i, 0 ≤ i → i < 6 → h 10 (h 302 d 0) i = h 10 a i)) → v = some (.inl 1)) ∧ (¬ (h 301 d 0 = s ∧ (∀ i, 0 ≤ i → i < 6 → h 10 (h 302 d 0) i = h 10 a i)) → v = some (.inl 0))) (fun _ _ _ _ _ _ => False)
def ivX2_isBy (d s a : Int) (h : ac_H) : Nat → Nat → ac_S := fun j m => match j with
  | 0 => fun L S g k nn => m = 1000 ∧ ent0 [some (.inr (.inl d)), some (.inl s), some (.inr (.inl a)), none] h L S g k nn
  | 1 => fun L S g k nn => ∃ (i : Nat), i ≤ 6 ∧ m = 6 - i ∧ h 301 d 0 = s ∧ (∀ z : Int, 0 ≤ z → z < i → h 10 (h 302 d 0) z = h 10 a z) ∧ L = [some (.inr (.inl d)), some (.inl s), some (.inr (.inl a)), some (.inl i)] ∧ S = [] ∧ g = h ∧ k = 0 ∧ nn = 0
  | _ => fun _ _ _ _ _ => False
set_option maxRecDepth 100000 in
set_option maxHeartbeats 4000000 in
theorem mtX2_isBy {G : ac_G} {l : Launch} : ac_Met G l yX2_isBy mX2_isBy 0 0 0 0 spX2_isBy := by
  refine ac_meth (pcs := pcX2_isBy) (B := fun P X J j => vcX2_isBy P X J j) (by decide) rfl rfl rfl (fun P X J hJ j => sdX2_isBy P X J hJ j) (hp_RIR (by decide)) fun As h hp => ?_
  obtain ⟨d, s, a, rfl, hp⟩ := sh_RIR_inv hp
  obtain ⟨h1, h2, h3, h4, h5⟩ := hp
  refine ⟨ivX2_isBy d s a h, 1000, ⟨rfl, rfl, rfl, rfl, rfl, rfl⟩, fun j m L S g k nn hI => ?_⟩
  match j, hI with
  | 0, hI =>
    obtain ⟨hm, rfl, rfl, rfl, rfl, rfl⟩ := hI
    simp only [spX2_isBy, vcX2_isBy, mX2_isBy, ac_ent, ldI, ldR, stI, stR, inc, cI, cJ, cN, bop, oAdd, oSub, oMul, oAnd, oOr, oXor, oShl, oShr, oUshr, oRem, oDiv, oMx, oMn, oI2l, oLcmp, oDup, oDup2, oDupX1, oPop, bIc, bI0, bNul, getI, getR, putI, putZ, putR, aLen, aldI, aldZ, aldJ, aldR, astI, astZ, astJ, astR, nwO, nwA, gsT, oObj, oCpy, oCln, oCst, rtI, rtZ, rtR, rtV, thr, call, callH, ac_hsel, ac_as, ac_rs, ac_cs, ac_rcv, List.map_cons, List.map_nil, List.length_cons, List.length_nil, List.replicate, List.append_nil, List.cons_append, List.nil_append, List.getElem?_cons_zero, List.getElem?_cons_succ, List.set, Nat.zero_add, Nat.add_zero, Nat.le_refl, Nat.reduceAdd, Nat.reduceSub, Nat.reduceLeDiff, Int.reduceLT, Int.reduceLE, Int.reduceNeg, Int.reduceEq, true_and, and_true, true_or, or_true, not_true_eq_false, not_false_eq_true, false_implies, true_implies, implies_true, reduceIte, and_self, Int.reduceAdd, Int.reduceMul, Int.reduceSub, eq_self, Int.add_zero, Int.zero_add, String.reduceEq, Nat.zero_le, Option.some.injEq, Sum.inl.injEq, Sum.inr.injEq, reduceCtorEq, Int.reduceToNat, Option.toList_some, Option.toList_none, ac_cs, ac_c10, ac_c11, ac_c12, ac_c13, ac_c14, ac_c15, ac_c16, ac_c17, sc_E, sh_E, sc_I, sh_I, sc_II, sh_II, sc_III, sh_III, sc_R, sh_R, sc_RI, sh_RI, sc_RII, sh_RII, sc_RIII, sh_RIII, sc_RIIII, sh_RIIII, sc_RR, sh_RR, sc_RRI, sh_RRI, sc_RRR, sh_RRR, sc_RIR, sh_RIR, sc_RIRI, sh_RIRI, sc_RRII, sh_RRII, sc_RRIII, sh_RRIII, sc_RIIRR, sh_RIIRR, sc_RIIIRR, sh_RIIIRR, sc_RIIR, sh_RIIR, sc_RRIIR, sh_RRIIR, sc_RRIIIR, sh_RRIIIR, sc_RRIIIIR, sh_RRIIIIR, sc_RRIR, sh_RRIR, h1]
    refine ⟨fun q => ⟨6, by omega, 0, by omega, by omega, q, fun z z0 z1 => by omega, rfl, rfl, rfl, rfl, rfl⟩, fun q => ?_⟩
    exact fun q2 => absurd q2.1 q
  | 1, hI =>
    obtain ⟨i, i1, hm, hs, hz, rfl, rfl, rfl, rfl, rfl⟩ := hI
    simp only [spX2_isBy, vcX2_isBy, mX2_isBy, ac_ent, ldI, ldR, stI, stR, inc, cI, cJ, cN, bop, oAdd, oSub, oMul, oAnd, oOr, oXor, oShl, oShr, oUshr, oRem, oDiv, oMx, oMn, oI2l, oLcmp, oDup, oDup2, oDupX1, oPop, bIc, bI0, bNul, getI, getR, putI, putZ, putR, aLen, aldI, aldZ, aldJ, aldR, astI, astZ, astJ, astR, nwO, nwA, gsT, oObj, oCpy, oCln, oCst, rtI, rtZ, rtR, rtV, thr, call, callH, ac_hsel, ac_as, ac_rs, ac_cs, ac_rcv, List.map_cons, List.map_nil, List.length_cons, List.length_nil, List.replicate, List.append_nil, List.cons_append, List.nil_append, List.getElem?_cons_zero, List.getElem?_cons_succ, List.set, Nat.zero_add, Nat.add_zero, Nat.le_refl, Nat.reduceAdd, Nat.reduceSub, Nat.reduceLeDiff, Int.reduceLT, Int.reduceLE, Int.reduceNeg, Int.reduceEq, true_and, and_true, true_or, or_true, not_true_eq_false, not_false_eq_true, false_implies, true_implies, implies_true, reduceIte, and_self, Int.reduceAdd, Int.reduceMul, Int.reduceSub, eq_self, Int.add_zero, Int.zero_add, String.reduceEq, Nat.zero_le, Option.some.injEq, Sum.inl.injEq, Sum.inr.injEq, reduceCtorEq, Int.reduceToNat, Option.toList_some, Option.toList_none, ac_cs, ac_c10, ac_c11, ac_c12, ac_c13, ac_c14, ac_c15, ac_c16, ac_c17, sc_E, sh_E, sc_I, sh_I, sc_II, sh_II, sc_III, sh_III, sc_R, sh_R, sc_RI, sh_RI, sc_RII, sh_RII, sc_RIII, sh_RIII, sc_RIIII, sh_RIIII, sc_RR, sh_RR, sc_RRI, sh_RRI, sc_RRR, sh_RRR, sc_RIR, sh_RIR, sc_RIRI, sh_RIRI, sc_RRII, sh_RRII, sc_RRIII, sh_RRIII, sc_RIIRR, sh_RIIRR, sc_RIIIRR, sh_RIIIRR, sc_RIIR, sh_RIIR, sc_RRIIR, sh_RRIIR, sc_RRIIIR, sh_RRIIIR, sc_RRIIIIR, sh_RRIIIIR, sc_RRIR, sh_RRIR, h1, h2, h3, h4, h5]
    have all6 : 6 ≤ (i : Int) → (g 301 d 0 = s ∧ ∀ (i : Int), 0 ≤ i → i < 6 → g 10 (g 302 d 0) i = g 10 a i) := fun q => ⟨hs, fun z z0 z1 => hz z z0 (by omega)⟩
    refine ⟨fun q q2 => q2 (all6 q), fun q => ⟨fun q q2 => q2 (all6 q), fun _ => ⟨⟨by omega, by omega⟩, ⟨by omega, by omega⟩, fun e => ?_, fun e => ?_⟩⟩⟩
    · simp (disch := omega) only [wr_of]
      refine ⟨6 - (i + 1), by omega, i + 1, by omega, by omega, hs, fun z z0 z1 => ?_, rfl, rfl, rfl, rfl, rfl⟩
      by_cases q2 : z = i
      · rw [q2]; exact e
      · exact hz z z0 (by omega)
    · exact fun q2 => e (q2.2 i (by omega) (by omega))
  | j + 2, hI => exact hI.elim
def spJ7_copyOf_59c91 : ac_Sp := sc_RI (fun a n h => h 0 a 0 = 10 ∧ h 1 a 0 = 60 ∧ 0 ≤ n ∧ n ≤ 60) (fun a n h v h' => ∃ b, ac_new h b ∧ v = some (.inr (.inl b)) ∧ h' 0 b 0 = 10 ∧ h' 1 b 0 = n ∧ (∀ i, 0 ≤ i → i < n → h' 10 b i = h 10 a i) ∧ ∀ k x j, x ≠ b → h' k x j = h k x j) (fun _ _ _ _ _ => False)
set_option maxRecDepth 100000 in
set_option maxHeartbeats 4000000 in
theorem mtJ7_copyOf_59c91 {G : ac_G} {l : Launch} : ac_Met G l yJ7_copyOf_59c91 mJ7_copyOf_59c91 1 30 1 60 spJ7_copyOf_59c91 := by
  refine ac_meth1 (pcs := pcJ7_copyOf_59c91) (B := fun P X J j => vcJ7_copyOf_59c91 P X J j) (by decide) rfl rfl rfl (fun P X J hJ j => sdJ7_copyOf_59c91 P X J hJ j) (hp_RI (by decide)) fun As h hp => ?_
  obtain ⟨a, n, rfl, hp⟩ := sh_RI_inv hp
  simp only [spJ7_copyOf_59c91, vcJ7_copyOf_59c91, mJ7_copyOf_59c91, sc_RI, sh_RI, ac_ent, ldI, ldR, stI, stR, inc, cI, cJ, cN, bop, oAdd, oSub, oMul, oAnd, oOr, oXor, oShl, oShr, oUshr, oRem, oDiv, oMx, oMn, oI2l, oLcmp, oDup, oDup2, oDupX1, oPop, bIc, bI0, bNul, getI, getR, putI, putZ, putR, aLen, aldI, aldZ, aldJ, aldR, astI, astZ, astJ, astR, nwO, nwA, gsT, oObj, oCpy, oCln, oCst, rtI, rtZ, rtR, rtV, thr, call, callH, ac_hsel, ac_as, ac_rs, ac_cs, ac_rcv, List.map_cons, List.map_nil, List.length_cons, List.length_nil, List.replicate, List.append_nil, List.cons_append, List.nil_append, List.getElem?_cons_zero, List.getElem?_cons_succ, List.set, Nat.zero_add, Nat.add_zero, Nat.le_refl, Nat.reduceAdd, Nat.reduceSub, Nat.reduceLeDiff, Int.reduceLT, Int.reduceLE, Int.reduceNeg, Int.reduceEq, true_and, and_true, true_or, or_true, not_true_eq_false, not_false_eq_true, false_implies, true_implies, implies_true, reduceIte, and_self, Int.reduceAdd, Int.reduceMul, Int.reduceSub, eq_self, Int.add_zero, Int.zero_add, String.reduceEq, Nat.zero_le, Option.some.injEq, Sum.inl.injEq, Sum.inr.injEq, reduceCtorEq, Int.reduceToNat, Option.toList_some, Option.toList_none, ac_cs, ac_c10, ac_c11, ac_c12, ac_c13, ac_c14, ac_c15, ac_c16, ac_c17, sc_E, sh_E, sc_I, sh_I, sc_II, sh_II, sc_III, sh_III, sc_R, sh_R, sc_RI, sh_RI, sc_RII, sh_RII, sc_RIII, sh_RIII, sc_RIIII, sh_RIIII, sc_RR, sh_RR, sc_RRI, sh_RRI, sc_RRR, sh_RRR, sc_RIR, sh_RIR, sc_RIRI, sh_RIRI, sc_RRII, sh_RRII, sc_RRIII, sh_RRIII, sc_RIIRR, sh_RIIRR, sc_RIIIRR, sh_RIIIRR, sc_RIIR, sh_RIIR, sc_RRIIR, sh_RRIIR, sc_RRIIIR, sh_RRIIIR, sc_RRIIIIR, sh_RRIIIIR, sc_RRIR, sh_RRIR]
  obtain ⟨h1, h2, h3, h4⟩ := hp
  simp only [h1, h2, ac_ent, ldI, ldR, stI, stR, inc, cI, cJ, cN, bop, oAdd, oSub, oMul, oAnd, oOr, oXor, oShl, oShr, oUshr, oRem, oDiv, oMx, oMn, oI2l, oLcmp, oDup, oDup2, oDupX1, oPop, bIc, bI0, bNul, getI, getR, putI, putZ, putR, aLen, aldI, aldZ, aldJ, aldR, astI, astZ, astJ, astR, nwO, nwA, gsT, oObj, oCpy, oCln, oCst, rtI, rtZ, rtR, rtV, thr, call, callH, ac_hsel, ac_as, ac_rs, ac_cs, ac_rcv, List.map_cons, List.map_nil, List.length_cons, List.length_nil, List.replicate, List.append_nil, List.cons_append, List.nil_append, List.getElem?_cons_zero, List.getElem?_cons_succ, List.set, Nat.zero_add, Nat.add_zero, Nat.le_refl, Nat.reduceAdd, Nat.reduceSub, Nat.reduceLeDiff, Int.reduceLT, Int.reduceLE, Int.reduceNeg, Int.reduceEq, true_and, and_true, true_or, or_true, not_true_eq_false, not_false_eq_true, false_implies, true_implies, implies_true, reduceIte, and_self, Int.reduceAdd, Int.reduceMul, Int.reduceSub, eq_self, Int.add_zero, Int.zero_add, String.reduceEq, Nat.zero_le, Option.some.injEq, Sum.inl.injEq, Sum.inr.injEq, reduceCtorEq, Int.reduceToNat, Option.toList_some, Option.toList_none, ac_cs, ac_c10, ac_c11, ac_c12, ac_c13, ac_c14, ac_c15, ac_c16, ac_c17, sc_E, sh_E, sc_I, sh_I, sc_II, sh_II, sc_III, sh_III, sc_R, sh_R, sc_RI, sh_RI, sc_RII, sh_RII, sc_RIII, sh_RIII, sc_RIIII, sh_RIIII, sc_RR, sh_RR, sc_RRI, sh_RRI, sc_RRR, sh_RRR, sc_RIR, sh_RIR, sc_RIRI, sh_RIRI, sc_RRII, sh_RRII, sc_RRIII, sh_RRIII, sc_RIIRR, sh_RIIRR, sc_RIIIRR, sh_RIIIRR, sc_RIIR, sh_RIIR, sc_RRIIR, sh_RRIIR, sc_RRIIIR, sh_RRIIIR, sc_RRIIIIR, sh_RRIIIIR, sc_RRIR, sh_RRIR]
  refine ⟨fun q b hb => ?_, fun q => ⟨⟨h3, by omega, by omega⟩, fun b hb => ?_⟩⟩
  · have ab : a ≠ b := new_ne hb (by rw [h1]; decide)
    refine ⟨by simp [ac_cln, h1], b, hb, rfl, by simp [ac_cln, h1], by simp [ac_cln, h2, q], fun i i0 i1 => by simp [ac_cln], fun k x j hx => by simp [ac_cln, hx]⟩
  · have ab : a ≠ b := new_ne hb (by rw [h1]; decide)
    have e1 : up (up h 0 b 0 10) 1 b 0 n 0 a 0 = 10 := by simp [up, ab, h1]
    have e2 : up (up h 0 b 0 10) 1 b 0 n 1 a 0 = 60 := by simp [up, ab, h2]
    have e3 : up (up h 0 b 0 10) 1 b 0 n 0 b 0 = 10 := by simp [up]
    have e4 : up (up h 0 b 0 10) 1 b 0 n 1 b 0 = n := by simp [up]
    have e5 : n < 60 := by omega
    rw [e1, e2, e3, e4, if_pos e5]
    refine ⟨by omega, by omega, ⟨by omega, by omega, by omega, by omega, by omega⟩, ⟨b, hb, rfl, ?_, ?_, ?_, ?_⟩, by omega⟩
    · simp [ac_cpy, e3]
    · simp [ac_cpy, e4]
    · intro i i0 i1
      simp only [ac_cpy]
      rw [if_pos ⟨trivial, trivial, i0, by omega⟩]
      simp [up]
    · intro k x j hx
      simp [ac_cpy, up, hx]
