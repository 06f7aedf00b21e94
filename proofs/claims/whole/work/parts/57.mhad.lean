/-! ===== the model: today ===== -/
abbrev tdOT (T : mT) : Prop := 0 < T 7 0 ∧ psT T (T 9 (T 7 0 - 1))
def tdRT (T : mT) : Int → Int := rlT T (T 9 (T 7 0 - 1)) (onT T (T 9 (T 7 0 - 1)))
theorem TS_td {T : mT} {s : sS} (hT : TS T s) (hS : SI s) : (tdOT T ↔ tdO s) ∧ (0 < T 7 0 → tdRT T = tdR s) := by
  obtain ⟨t1, t2⟩ := hT.2.1
  have h0 := hS.2.2.2.2.1
  constructor
  · unfold tdOT tdO
    by_cases q : 0 < s 6 0 0
    · obtain ⟨t3, t4⟩ := t2 q
      rw [t1, t4]
      have := (TS_or (s 8 0 0) hT hS).2.1
      constructor
      · rintro ⟨a, b⟩; exact ⟨by omega, this.mp b⟩
      · rintro ⟨a, b⟩; exact ⟨q, this.mpr b⟩
    · constructor
      · rintro ⟨a, -⟩; omega
      · rintro ⟨a, -⟩; omega
  · intro q
    rw [t1] at q
    obtain ⟨t3, t4⟩ := t2 q
    unfold tdRT tdR
    rw [t1, t4]
    exact (TS_or (s 8 0 0) hT hS).2.2.2
def spX9_hasToday : ac_Sp := sc_R (fun m h => MK h m ∧ MI (tv h m)) (fun m h v h' => ∃ T', MT h h' m T' ∧ (∀ k, k ≠ 12 → k ≠ 13 → k ≠ 14 → T' k = tv h m k) ∧ (tdOT (tv h m) → ∀ j, 0 ≤ j → j < 6 → T' 12 j = tdRT (tv h m) j) ∧ v = some (.inl (b01 (tdOT (tv h m))))) (fun _ _ _ _ => False)
set_option maxRecDepth 100000 in
set_option maxHeartbeats 4000000 in
theorem mtX9_hasToday {G : ac_G} {l : Launch} : ac_Met G l yX9_hasToday mX9_hasToday 3 70 0 0 spX9_hasToday := by
  refine ac_meth1 (pcs := pcX9_hasToday) (B := fun P X J j => vcX9_hasToday spX9_hasRules P X J j) (by decide) rfl rfl rfl (fun P X J hJ j => sdX9_hasToday mtX9_hasRules P X J hJ j) (hp_R (by decide)) fun As h hp => ?_
  obtain ⟨m, rfl, hp⟩ := sh_R_inv hp
  simp only [spX9_hasToday, vcX9_hasToday, mX9_hasToday, spX9_hasRules, sc_R, sh_R, ac_ent, ldI, ldR, stI, stR, inc, cI, cJ, cN, bop, oAdd, oSub, oMul, oAnd, oOr, oXor, oShl, oShr, oUshr, oRem, oDiv, oMx, oMn, oI2l, oLcmp, oDup, oDup2, oDupX1, oPop, bIc, bI0, bNul, getI, getR, putI, putZ, putR, aLen, aldI, aldZ, aldJ, aldR, astI, astZ, astJ, astR, nwO, nwA, gsT, oObj, oCpy, oCln, oCst, rtI, rtZ, rtR, rtV, thr, call, callH, ac_hsel, ac_as, ac_rs, ac_cs, ac_rcv, List.map_cons, List.map_nil, List.length_cons, List.length_nil, List.replicate, List.append_nil, List.cons_append, List.nil_append, List.getElem?_cons_zero, List.getElem?_cons_succ, List.set, Nat.zero_add, Nat.add_zero, Nat.le_refl, Nat.reduceAdd, Nat.reduceSub, Nat.reduceLeDiff, Int.reduceLT, Int.reduceLE, Int.reduceNeg, Int.reduceEq, true_and, and_true, true_or, or_true, not_true_eq_false, not_false_eq_true, false_implies, true_implies, implies_true, reduceIte, and_self, Int.reduceAdd, Int.reduceMul, Int.reduceSub, eq_self, Int.add_zero, Int.zero_add, String.reduceEq, Nat.zero_le, Option.some.injEq, Sum.inl.injEq, Sum.inr.injEq, reduceCtorEq, Int.reduceToNat, Option.toList_some, Option.toList_none, ac_cs, ac_c10, ac_c11, ac_c12, ac_c13, ac_c14, ac_c15, ac_c16, ac_c17, sc_E, sh_E, sc_I, sh_I, sc_II, sh_II, sc_III, sh_III, sc_R, sh_R, sc_RI, sh_RI, sc_RII, sh_RII, sc_RIII, sh_RIII, sc_RIIII, sh_RIIII, sc_RR, sh_RR, sc_RRI, sh_RRI, sc_RRR, sh_RRR, sc_RIR, sh_RIR, sc_RIRI, sh_RIRI, sc_RRII, sh_RRII, sc_RRIII, sh_RRIII, sc_RIIRR, sh_RIIRR, sc_RIIIRR, sh_RIIIRR, sc_RIIR, sh_RIIR, sc_RRIIR, sh_RRIIR, sc_RRIIIR, sh_RRIIIR, sc_RRIIIIR, sh_RRIIIIR, sc_RRIR, sh_RRIR]
  obtain ⟨hK, hI⟩ := hp
  have hM := mt_0 hK
  obtain ⟨T, hT⟩ : ∃ T, tv h m = T := ⟨_, rfl⟩
  rw [hT] at hI hM
  have hI2 := hI.2.1
  simp only [mt_k hM, mr_7 hM, mr_9 hM, mk_9 hM, ml_9 hM, mt_K hM, hT, hI, ac_ent, ldI, ldR, stI, stR, inc, cI, cJ, cN, bop, oAdd, oSub, oMul, oAnd, oOr, oXor, oShl, oShr, oUshr, oRem, oDiv, oMx, oMn, oI2l, oLcmp, oDup, oDup2, oDupX1, oPop, bIc, bI0, bNul, getI, getR, putI, putZ, putR, aLen, aldI, aldZ, aldJ, aldR, astI, astZ, astJ, astR, nwO, nwA, gsT, oObj, oCpy, oCln, oCst, rtI, rtZ, rtR, rtV, thr, call, callH, ac_hsel, ac_as, ac_rs, ac_cs, ac_rcv, List.map_cons, List.map_nil, List.length_cons, List.length_nil, List.replicate, List.append_nil, List.cons_append, List.nil_append, List.getElem?_cons_zero, List.getElem?_cons_succ, List.set, Nat.zero_add, Nat.add_zero, Nat.le_refl, Nat.reduceAdd, Nat.reduceSub, Nat.reduceLeDiff, Int.reduceLT, Int.reduceLE, Int.reduceNeg, Int.reduceEq, true_and, and_true, true_or, or_true, not_true_eq_false, not_false_eq_true, false_implies, true_implies, implies_true, reduceIte, and_self, Int.reduceAdd, Int.reduceMul, Int.reduceSub, eq_self, Int.add_zero, Int.zero_add, String.reduceEq, Nat.zero_le, Option.some.injEq, Sum.inl.injEq, Sum.inr.injEq, reduceCtorEq, Int.reduceToNat, Option.toList_some, Option.toList_none, ac_cs, ac_c10, ac_c11, ac_c12, ac_c13, ac_c14, ac_c15, ac_c16, ac_c17, sc_E, sh_E, sc_I, sh_I, sc_II, sh_II, sc_III, sh_III, sc_R, sh_R, sc_RI, sh_RI, sc_RII, sh_RII, sc_RIII, sh_RIII, sc_RIIII, sh_RIIII, sc_RR, sh_RR, sc_RRI, sh_RRI, sc_RRR, sh_RRR, sc_RIR, sh_RIR, sc_RIRI, sh_RIRI, sc_RRII, sh_RRII, sc_RRIII, sh_RRIII, sc_RIIRR, sh_RIIRR, sc_RIIIRR, sh_RIIIRR, sc_RIIR, sh_RIIR, sc_RRIIR, sh_RRIIR, sc_RRIIIR, sh_RRIIIR, sc_RRIIIIR, sh_RRIIIIR, sc_RRIR, sh_RRIR]
  simp (disch := omega) only [wr_of]
  refine ⟨fun e => ⟨T, hM, fun _ _ _ _ => rfl, fun q => by omega, by rw [b01_f (fun q => by omega)]⟩, fun e => ⟨by omega, ?_⟩⟩
  rintro v h' ⟨T', n, hx, ho, hn, h12, rfl⟩
  rw [onT_u hn] at h12 ⊢
  simp only [b01_0, ac_ent, ldI, ldR, stI, stR, inc, cI, cJ, cN, bop, oAdd, oSub, oMul, oAnd, oOr, oXor, oShl, oShr, oUshr, oRem, oDiv, oMx, oMn, oI2l, oLcmp, oDup, oDup2, oDupX1, oPop, bIc, bI0, bNul, getI, getR, putI, putZ, putR, aLen, aldI, aldZ, aldJ, aldR, astI, astZ, astJ, astR, nwO, nwA, gsT, oObj, oCpy, oCln, oCst, rtI, rtZ, rtR, rtV, thr, call, callH, ac_hsel, ac_as, ac_rs, ac_cs, ac_rcv, List.map_cons, List.map_nil, List.length_cons, List.length_nil, List.replicate, List.append_nil, List.cons_append, List.nil_append, List.getElem?_cons_zero, List.getElem?_cons_succ, List.set, Nat.zero_add, Nat.add_zero, Nat.le_refl, Nat.reduceAdd, Nat.reduceSub, Nat.reduceLeDiff, Int.reduceLT, Int.reduceLE, Int.reduceNeg, Int.reduceEq, true_and, and_true, true_or, or_true, not_true_eq_false, not_false_eq_true, false_implies, true_implies, implies_true, reduceIte, and_self, Int.reduceAdd, Int.reduceMul, Int.reduceSub, eq_self, Int.add_zero, Int.zero_add, String.reduceEq, Nat.zero_le, Option.some.injEq, Sum.inl.injEq, Sum.inr.injEq, reduceCtorEq, Int.reduceToNat, Option.toList_some, Option.toList_none, ac_cs, ac_c10, ac_c11, ac_c12, ac_c13, ac_c14, ac_c15, ac_c16, ac_c17, sc_E, sh_E, sc_I, sh_I, sc_II, sh_II, sc_III, sh_III, sc_R, sh_R, sc_RI, sh_RI, sc_RII, sh_RII, sc_RIII, sh_RIII, sc_RIIII, sh_RIIII, sc_RR, sh_RR, sc_RRI, sh_RRI, sc_RRR, sh_RRR, sc_RIR, sh_RIR, sc_RIRI, sh_RIRI, sc_RRII, sh_RRII, sc_RRIII, sh_RRIII, sc_RIIRR, sh_RIIRR, sc_RIIIRR, sh_RIIIRR, sc_RIIR, sh_RIIR, sc_RRIIR, sh_RRIIR, sc_RRIIIR, sh_RRIIIR, sc_RRIIIIR, sh_RRIIIIR, sc_RRIR, sh_RRIR]
  exact ⟨fun e2 => ⟨T', hx, ho, fun _ => h12, by rw [b01_f (fun q => e2 q.2)]⟩, fun e2 => ⟨T', hx, ho, fun _ => h12, by rw [b01_t ⟨by omega, Decidable.not_not.mp e2⟩]⟩⟩
def hdT (T : mT) (d : Int) : Bool := decide (T 16 d = T 8 (T 7 0 - 1) ∧ sm6 (fun i => T 17 (6 * d + i)) (T 12))
def hadT (T : mT) : Int := fnd (hdT T) (T 15 0).toNat
theorem TS_hd {T T' : mT} {s : sS} (hT : TS T s) (hS : SI s) (h0 : 0 < T 7 0) (sc : ∀ k, scr k = false → T' k = T k) (h12 : ∀ j, 0 ≤ j → j < 6 → T' 12 j = tdRT T j) : hadT T' = tdD s := by
  obtain ⟨t1, t2⟩ := hT.2.1
  obtain ⟨t3, t4⟩ := t2 (by omega)
  obtain ⟨g1, g2, -⟩ := hT.2.2.2.1
  have e := (TS_td hT hS).2 h0
  unfold hadT tdD
  rw [sc 15 (by decide), g1]
  refine fnd_congr _ fun d d0 d1 => ?_
  obtain ⟨g3, g4⟩ := g2 d d0 (by omega)
  unfold hdT hdS
  rw [sc 16 (by decide), sc 17 (by decide), sc 8 (by decide), sc 7 (by decide), g3, t1, t3]
  have e2 : sm6 (fun i => T 17 (6 * d + i)) (T' 12) ↔ sm6 (s 13 d) (tdR s) := by
    rw [sm6_all, sm6_all]
    constructor
    · intro q i i0 i1
      rw [← g4 i i0 i1, q i i0 i1, h12 i i0 i1, e]
    · intro q i i0 i1
      rw [h12 i i0 i1, e, ← q i i0 i1]
      exact g4 i i0 i1
  by_cases q : s 12 d 0 = s 7 0 0 ∧ sm6 (s 13 d) (tdR s)
  · rw [decide_eq_true q, decide_eq_true ⟨q.1, e2.mpr q.2⟩]
  · rw [decide_eq_false q, decide_eq_false (fun q2 => q ⟨q2.1, e2.mp q2.2⟩)]
def spX9_had : ac_Sp := sc_R (fun m h => MK h m ∧ MI (tv h m) ∧ 0 < tv h m 7 0) (fun m h v h' => h' = h ∧ v = some (.inl (hadT (tv h m)))) (fun _ _ _ _ => False)
def ivX9_had (m : Int) (h : ac_H) (T : mT) : Nat → Nat → ac_S := fun j mm => match j with
  | 0 => fun L S g k z => mm = 1000 ∧ ent0 [some (.inr (.inl m)), none, none, none] h L S g k z
  | 1 => fun L S g k z => ∃ (d : Int) (x y : Option ac_V), 0 ≤ d ∧ d ≤ T 15 0 ∧ (mm : Int) = 10 * (20 - d) + 8 ∧ (∀ j, 0 ≤ j → j < d → hdT T j = false) ∧ L = [some (.inr (.inl m)), some (.inl d), x, y] ∧ S = [] ∧ g = h ∧ k = 0 ∧ z = 0
  | 2 => fun L S g k z => ∃ (d i : Int), 0 ≤ d ∧ d < T 15 0 ∧ 0 ≤ i ∧ i ≤ 6 ∧ (mm : Int) = 10 * (20 - d) + 7 - i ∧ (∀ j, 0 ≤ j → j < d → hdT T j = false) ∧ (∃ w : Int, (w = 0 ∨ w = 1) ∧ (w = 1 ↔ T 16 d = T 8 (T 7 0 - 1) ∧ ∀ j, 0 ≤ j → j < i → T 17 (6 * d + j) = T 12 j) ∧ L = [some (.inr (.inl m)), some (.inl d), some (.inl w), some (.inl i)]) ∧ S = [] ∧ g = h ∧ k = 0 ∧ z = 0
  | _ => fun _ _ _ _ _ => False
set_option maxRecDepth 100000 in
set_option maxHeartbeats 4000000 in
theorem mtX9_had {G : ac_G} {l : Launch} : ac_Met G l yX9_had mX9_had 0 0 0 0 spX9_had := by
  refine ac_meth (pcs := pcX9_had) (B := fun P X J j => vcX9_had P X J j) (by decide) rfl rfl rfl (fun P X J hJ j => sdX9_had P X J hJ j) (hp_R (by decide)) fun As h hp => ?_
  obtain ⟨m, rfl, hp⟩ := sh_R_inv hp
  obtain ⟨hK, hI, hd⟩ := hp
  have hM := mt_0 hK
  obtain ⟨T, hT⟩ : ∃ T, tv h m = T := ⟨_, rfl⟩
  rw [hT] at hI hM hd
  have hI2 := hI.2.1
  have hI4 := hI.2.2.2.1
  refine ⟨ivX9_had m h T, 1000, ⟨rfl, rfl, rfl, rfl, rfl, rfl⟩, fun j mm L S g k z hJ => ?_⟩
  match j, hJ with
  | 0, hJ =>
    obtain ⟨hm, rfl, rfl, rfl, rfl, rfl⟩ := hJ
    simp only [spX9_had, vcX9_had, mX9_had, ac_ent, ldI, ldR, stI, stR, inc, cI, cJ, cN, bop, oAdd, oSub, oMul, oAnd, oOr, oXor, oShl, oShr, oUshr, oRem, oDiv, oMx, oMn, oI2l, oLcmp, oDup, oDup2, oDupX1, oPop, bIc, bI0, bNul, getI, getR, putI, putZ, putR, aLen, aldI, aldZ, aldJ, aldR, astI, astZ, astJ, astR, nwO, nwA, gsT, oObj, oCpy, oCln, oCst, rtI, rtZ, rtR, rtV, thr, call, callH, ac_hsel, ac_as, ac_rs, ac_cs, ac_rcv, List.map_cons, List.map_nil, List.length_cons, List.length_nil, List.replicate, List.append_nil, List.cons_append, List.nil_append, List.getElem?_cons_zero, List.getElem?_cons_succ, List.set, Nat.zero_add, Nat.add_zero, Nat.le_refl, Nat.reduceAdd, Nat.reduceSub, Nat.reduceLeDiff, Int.reduceLT, Int.reduceLE, Int.reduceNeg, Int.reduceEq, true_and, and_true, true_or, or_true, not_true_eq_false, not_false_eq_true, false_implies, true_implies, implies_true, reduceIte, and_self, Int.reduceAdd, Int.reduceMul, Int.reduceSub, eq_self, Int.add_zero, Int.zero_add, String.reduceEq, Nat.zero_le, Option.some.injEq, Sum.inl.injEq, Sum.inr.injEq, reduceCtorEq, Int.reduceToNat, Option.toList_some, Option.toList_none, ac_cs, ac_c10, ac_c11, ac_c12, ac_c13, ac_c14, ac_c15, ac_c16, ac_c17, sc_E, sh_E, sc_I, sh_I, sc_II, sh_II, sc_III, sh_III, sc_R, sh_R, sc_RI, sh_RI, sc_RII, sh_RII, sc_RIII, sh_RIII, sc_RIIII, sh_RIIII, sc_RR, sh_RR, sc_RRI, sh_RRI, sc_RRR, sh_RRR, sc_RIR, sh_RIR, sc_RIRI, sh_RIRI, sc_RRII, sh_RRII, sc_RRIII, sh_RRIII, sc_RIIRR, sh_RIIRR, sc_RIIIRR, sh_RIIIRR, sc_RIIR, sh_RIIR, sc_RRIIR, sh_RRIIR, sc_RRIIIR, sh_RRIIIR, sc_RRIIIIR, sh_RRIIIIR, sc_RRIR, sh_RRIR]
    exact ⟨208, by omega, 0, none, none, by omega, by omega, by omega, (fun j a b => by omega), rfl, rfl, rfl, rfl, rfl⟩
  | 1, hJ =>
    obtain ⟨d, x, y, d0, d1, hm, hi, rfl, rfl, rfl, rfl, rfl⟩ := hJ
    simp only [spX9_had, vcX9_had, mX9_had, ac_ent, ldI, ldR, stI, stR, inc, cI, cJ, cN, bop, oAdd, oSub, oMul, oAnd, oOr, oXor, oShl, oShr, oUshr, oRem, oDiv, oMx, oMn, oI2l, oLcmp, oDup, oDup2, oDupX1, oPop, bIc, bI0, bNul, getI, getR, putI, putZ, putR, aLen, aldI, aldZ, aldJ, aldR, astI, astZ, astJ, astR, nwO, nwA, gsT, oObj, oCpy, oCln, oCst, rtI, rtZ, rtR, rtV, thr, call, callH, ac_hsel, ac_as, ac_rs, ac_cs, ac_rcv, List.map_cons, List.map_nil, List.length_cons, List.length_nil, List.replicate, List.append_nil, List.cons_append, List.nil_append, List.getElem?_cons_zero, List.getElem?_cons_succ, List.set, Nat.zero_add, Nat.add_zero, Nat.le_refl, Nat.reduceAdd, Nat.reduceSub, Nat.reduceLeDiff, Int.reduceLT, Int.reduceLE, Int.reduceNeg, Int.reduceEq, true_and, and_true, true_or, or_true, not_true_eq_false, not_false_eq_true, false_implies, true_implies, implies_true, reduceIte, and_self, Int.reduceAdd, Int.reduceMul, Int.reduceSub, eq_self, Int.add_zero, Int.zero_add, String.reduceEq, Nat.zero_le, Option.some.injEq, Sum.inl.injEq, Sum.inr.injEq, reduceCtorEq, Int.reduceToNat, Option.toList_some, Option.toList_none, ac_cs, ac_c10, ac_c11, ac_c12, ac_c13, ac_c14, ac_c15, ac_c16, ac_c17, sc_E, sh_E, sc_I, sh_I, sc_II, sh_II, sc_III, sh_III, sc_R, sh_R, sc_RI, sh_RI, sc_RII, sh_RII, sc_RIII, sh_RIII, sc_RIIII, sh_RIIII, sc_RR, sh_RR, sc_RRI, sh_RRI, sc_RRR, sh_RRR, sc_RIR, sh_RIR, sc_RIRI, sh_RIRI, sc_RRII, sh_RRII, sc_RRIII, sh_RRIII, sc_RIIRR, sh_RIIRR, sc_RIIIRR, sh_RIIIRR, sc_RIIR, sh_RIIR, sc_RRIIR, sh_RRIIR, sc_RRIIIR, sh_RRIIIR, sc_RRIIIIR, sh_RRIIIIR, sc_RRIR, sh_RRIR, mt_k hM, mr_7 hM, mr_8 hM, mk_8 hM, ml_8 hM, mr_15 hM, mr_16 hM, mk_16 hM, ml_16 hM, hT]
    simp (disch := omega) only [wr_of]
    refine ⟨fun q => ?_, fun q => ⟨by omega, by omega, fun e => ?_, fun e => ?_⟩⟩
    · refine (fnd_none fun j j0 j1 => hi j j0 (by omega)).symm
    · exact ⟨mm - 1, by omega, d, 0, d0, by omega, by omega, by omega, by omega, hi, ⟨1, Or.inr rfl, ⟨fun _ => ⟨e, fun j a b => by omega⟩, fun _ => rfl⟩, rfl⟩, rfl, rfl, rfl, rfl⟩
    · exact ⟨mm - 1, by omega, d, 0, d0, by omega, by omega, by omega, by omega, hi, ⟨0, Or.inl rfl, ⟨fun q => absurd q (by decide), fun q => absurd q.1 e⟩, rfl⟩, rfl, rfl, rfl, rfl⟩
  | 2, hJ =>
    obtain ⟨d, i, d0, d1, i0, i1, hm, hi, ⟨w, w01, hw, rfl⟩, rfl, rfl, rfl, rfl⟩ := hJ
    simp only [spX9_had, vcX9_had, mX9_had, ac_ent, ldI, ldR, stI, stR, inc, cI, cJ, cN, bop, oAdd, oSub, oMul, oAnd, oOr, oXor, oShl, oShr, oUshr, oRem, oDiv, oMx, oMn, oI2l, oLcmp, oDup, oDup2, oDupX1, oPop, bIc, bI0, bNul, getI, getR, putI, putZ, putR, aLen, aldI, aldZ, aldJ, aldR, astI, astZ, astJ, astR, nwO, nwA, gsT, oObj, oCpy, oCln, oCst, rtI, rtZ, rtR, rtV, thr, call, callH, ac_hsel, ac_as, ac_rs, ac_cs, ac_rcv, List.map_cons, List.map_nil, List.length_cons, List.length_nil, List.replicate, List.append_nil, List.cons_append, List.nil_append, List.getElem?_cons_zero, List.getElem?_cons_succ, List.set, Nat.zero_add, Nat.add_zero, Nat.le_refl, Nat.reduceAdd, Nat.reduceSub, Nat.reduceLeDiff, Int.reduceLT, Int.reduceLE, Int.reduceNeg, Int.reduceEq, true_and, and_true, true_or, or_true, not_true_eq_false, not_false_eq_true, false_implies, true_implies, implies_true, reduceIte, and_self, Int.reduceAdd, Int.reduceMul, Int.reduceSub, eq_self, Int.add_zero, Int.zero_add, String.reduceEq, Nat.zero_le, Option.some.injEq, Sum.inl.injEq, Sum.inr.injEq, reduceCtorEq, Int.reduceToNat, Option.toList_some, Option.toList_none, ac_cs, ac_c10, ac_c11, ac_c12, ac_c13, ac_c14, ac_c15, ac_c16, ac_c17, sc_E, sh_E, sc_I, sh_I, sc_II, sh_II, sc_III, sh_III, sc_R, sh_R, sc_RI, sh_RI, sc_RII, sh_RII, sc_RIII, sh_RIII, sc_RIIII, sh_RIIII, sc_RR, sh_RR, sc_RRI, sh_RRI, sc_RRR, sh_RRR, sc_RIR, sh_RIR, sc_RIRI, sh_RIRI, sc_RRII, sh_RRII, sc_RRIII, sh_RRIII, sc_RIIRR, sh_RIIRR, sc_RIIIRR, sh_RIIIRR, sc_RIIR, sh_RIIR, sc_RRIIR, sh_RRIIR, sc_RRIIIR, sh_RRIIIR, sc_RRIIIIR, sh_RRIIIIR, sc_RRIR, sh_RRIR, mt_k hM, mr_12 hM, mk_12 hM, ml_12 hM, mr_17 hM, mk_17 hM, ml_17 hM, hT]
    simp (disch := omega) only [wr_of]
    have w1 : ¬ w = 0 ↔ w = 1 := by omega
    refine ⟨fun q => ⟨fun e => ?_, fun e => ?_⟩, fun q => ⟨fun e => ?_, fun e => ⟨by omega, by omega, fun e2 => ?_, fun e2 => ?_⟩⟩⟩
    · have e6 : i = 6 := by omega
      refine ⟨(10 * (20 - (d + 1)) + 8).toNat, by omega, d + 1, _, _, by omega, by omega, by omega, fun j j0 j1 => ?_, rfl, rfl, rfl, rfl, rfl⟩
      by_cases qq : j = d
      · subst qq
        refine decide_eq_false fun q2 => ?_
        have : w = 1 := hw.mpr ⟨q2.1, fun j a b => sm6_all.mp q2.2 j a (by omega)⟩
        omega
      · exact hi j j0 (by omega)
    · have e6 : i = 6 := by omega
      subst e6
      have := hw.mp (w1.mp e)
      exact (fnd_some d0 (by omega) (decide_eq_true ⟨this.1, sm6_all.mpr this.2⟩) hi).symm
    · refine ⟨mm - 1, by omega, d, i + 1, d0, d1, by omega, by omega, by omega, hi, ⟨0, Or.inl rfl, ⟨fun q2 => absurd q2 (by decide), fun q2 => ?_⟩, rfl⟩, rfl, rfl, rfl, rfl⟩
      have : w = 1 := hw.mpr ⟨q2.1, fun j a b => q2.2 j a (by omega)⟩
      omega
    · refine ⟨mm - 1, by omega, d, i + 1, d0, d1, by omega, by omega, by omega, hi, ⟨1, Or.inr rfl, ⟨fun _ => ⟨(hw.mp (w1.mp e)).1, fun j a b => ?_⟩, fun _ => rfl⟩, rfl⟩, rfl, rfl, rfl, rfl⟩
      by_cases qq : j = i
      · rw [qq]; exact e2
      · exact (hw.mp (w1.mp e)).2 j a (by omega)
    · exact ⟨mm - 1, by omega, d, i + 1, d0, d1, by omega, by omega, by omega, hi, ⟨0, Or.inl rfl, ⟨fun q2 => absurd q2 (by decide), fun q2 => absurd (q2.2 i i0 (by omega)) e2⟩, rfl⟩, rfl, rfl, rfl, rfl⟩
  | j + 3, hJ => exact hJ.elim
def spX9_dungeonToday : ac_Sp := sc_R (fun m h => MW h m) (fun m h v h' => OKm m h h' v (fun _ => 0) vlToday id) (fun _ _ _ _ => False)
set_option maxRecDepth 100000 in
set_option maxHeartbeats 4000000 in
theorem mtX9_dungeonToday {G : ac_G} {l : Launch} : ac_Met G l yX9_dungeonToday mX9_dungeonToday 4 90 0 0 spX9_dungeonToday := by
  refine ac_meth1 (pcs := pcX9_dungeonToday) (B := fun P X J j => vcX9_dungeonToday spX9_hasToday spX9_had P X J j) (by decide) rfl rfl rfl (fun P X J hJ j => sdX9_dungeonToday mtX9_hasToday mtX9_had P X J hJ j) (hp_R (by decide)) fun As h hp => ?_
  obtain ⟨m, rfl, hp⟩ := sh_R_inv hp
  simp only [spX9_dungeonToday, vcX9_dungeonToday, mX9_dungeonToday, spX9_hasToday, spX9_had, sc_R, sh_R, ac_ent, ldI, ldR, stI, stR, inc, cI, cJ, cN, bop, oAdd, oSub, oMul, oAnd, oOr, oXor, oShl, oShr, oUshr, oRem, oDiv, oMx, oMn, oI2l, oLcmp, oDup, oDup2, oDupX1, oPop, bIc, bI0, bNul, getI, getR, putI, putZ, putR, aLen, aldI, aldZ, aldJ, aldR, astI, astZ, astJ, astR, nwO, nwA, gsT, oObj, oCpy, oCln, oCst, rtI, rtZ, rtR, rtV, thr, call, callH, ac_hsel, ac_as, ac_rs, ac_cs, ac_rcv, List.map_cons, List.map_nil, List.length_cons, List.length_nil, List.replicate, List.append_nil, List.cons_append, List.nil_append, List.getElem?_cons_zero, List.getElem?_cons_succ, List.set, Nat.zero_add, Nat.add_zero, Nat.le_refl, Nat.reduceAdd, Nat.reduceSub, Nat.reduceLeDiff, Int.reduceLT, Int.reduceLE, Int.reduceNeg, Int.reduceEq, true_and, and_true, true_or, or_true, not_true_eq_false, not_false_eq_true, false_implies, true_implies, implies_true, reduceIte, and_self, Int.reduceAdd, Int.reduceMul, Int.reduceSub, eq_self, Int.add_zero, Int.zero_add, String.reduceEq, Nat.zero_le, Option.some.injEq, Sum.inl.injEq, Sum.inr.injEq, reduceCtorEq, Int.reduceToNat, Option.toList_some, Option.toList_none, ac_cs, ac_c10, ac_c11, ac_c12, ac_c13, ac_c14, ac_c15, ac_c16, ac_c17, sc_E, sh_E, sc_I, sh_I, sc_II, sh_II, sc_III, sh_III, sc_R, sh_R, sc_RI, sh_RI, sc_RII, sh_RII, sc_RIII, sh_RIII, sc_RIIII, sh_RIIII, sc_RR, sh_RR, sc_RRI, sh_RRI, sc_RRR, sh_RRR, sc_RIR, sh_RIR, sc_RIRI, sh_RIRI, sc_RRII, sh_RRII, sc_RRIII, sh_RRIII, sc_RIIRR, sh_RIIRR, sc_RIIIRR, sh_RIIIRR, sc_RIIR, sh_RIIR, sc_RRIIR, sh_RRIIR, sc_RRIIIR, sh_RRIIIR, sc_RRIIIIR, sh_RRIIIIR, sc_RRIR, sh_RRIR]
  obtain ⟨T, hM, hI⟩ := MW_I hp
  have hm0 := mt_f 0 hM rfl (v := 0)
  have hm : MT h (up h 1000 m 0 0) m (tu T 0 0 0) := hm0
  have hIx : MI (tu T 0 0 0) := MI_sc scr_0 hI
  simp only [mt_k hM, mt_k hm, mt_K hm, mt_T hm, hIx, ac_ent, ldI, ldR, stI, stR, inc, cI, cJ, cN, bop, oAdd, oSub, oMul, oAnd, oOr, oXor, oShl, oShr, oUshr, oRem, oDiv, oMx, oMn, oI2l, oLcmp, oDup, oDup2, oDupX1, oPop, bIc, bI0, bNul, getI, getR, putI, putZ, putR, aLen, aldI, aldZ, aldJ, aldR, astI, astZ, astJ, astR, nwO, nwA, gsT, oObj, oCpy, oCln, oCst, rtI, rtZ, rtR, rtV, thr, call, callH, ac_hsel, ac_as, ac_rs, ac_cs, ac_rcv, List.map_cons, List.map_nil, List.length_cons, List.length_nil, List.replicate, List.append_nil, List.cons_append, List.nil_append, List.getElem?_cons_zero, List.getElem?_cons_succ, List.set, Nat.zero_add, Nat.add_zero, Nat.le_refl, Nat.reduceAdd, Nat.reduceSub, Nat.reduceLeDiff, Int.reduceLT, Int.reduceLE, Int.reduceNeg, Int.reduceEq, true_and, and_true, true_or, or_true, not_true_eq_false, not_false_eq_true, false_implies, true_implies, implies_true, reduceIte, and_self, Int.reduceAdd, Int.reduceMul, Int.reduceSub, eq_self, Int.add_zero, Int.zero_add, String.reduceEq, Nat.zero_le, Option.some.injEq, Sum.inl.injEq, Sum.inr.injEq, reduceCtorEq, Int.reduceToNat, Option.toList_some, Option.toList_none, ac_cs, ac_c10, ac_c11, ac_c12, ac_c13, ac_c14, ac_c15, ac_c16, ac_c17, sc_E, sh_E, sc_I, sh_I, sc_II, sh_II, sc_III, sh_III, sc_R, sh_R, sc_RI, sh_RI, sc_RII, sh_RII, sc_RIII, sh_RIII, sc_RIIII, sh_RIIII, sc_RR, sh_RR, sc_RRI, sh_RRI, sc_RRR, sh_RRR, sc_RIR, sh_RIR, sc_RIRI, sh_RIRI, sc_RRII, sh_RRII, sc_RRIII, sh_RRIII, sc_RIIRR, sh_RIIRR, sc_RIIIRR, sh_RIIIRR, sc_RIIR, sh_RIIR, sc_RRIIR, sh_RRIIR, sc_RRIIIR, sh_RRIIIR, sc_RRIIIIR, sh_RRIIIIR, sc_RRIR, sh_RRIR]
  rintro v h' ⟨T', hx, ho, h12, rfl⟩
  have e1 : tdOT (tu T 0 0 0) ↔ tdOT T := by unfold tdOT psT onT; simp only [tu_k, tu_s, ne_eq, Nat.reduceEqDiff, not_false_eq_true]
  have e2 : tdRT (tu T 0 0 0) = tdRT T := by unfold tdRT rlT onT; simp only [tu_k, tu_s, ne_eq, Nat.reduceEqDiff, not_false_eq_true]
  have sc : ∀ k, scr k = false → T' k = T k := scr_tr scr_0 (scr_12 ho)
  have z0 : T' 0 0 = 0 := by rw [ho 0 (by decide) (by decide) (by decide), tu_s]
  rw [e2] at h12
  simp only [b01_0, e1, ac_ent, ldI, ldR, stI, stR, inc, cI, cJ, cN, bop, oAdd, oSub, oMul, oAnd, oOr, oXor, oShl, oShr, oUshr, oRem, oDiv, oMx, oMn, oI2l, oLcmp, oDup, oDup2, oDupX1, oPop, bIc, bI0, bNul, getI, getR, putI, putZ, putR, aLen, aldI, aldZ, aldJ, aldR, astI, astZ, astJ, astR, nwO, nwA, gsT, oObj, oCpy, oCln, oCst, rtI, rtZ, rtR, rtV, thr, call, callH, ac_hsel, ac_as, ac_rs, ac_cs, ac_rcv, List.map_cons, List.map_nil, List.length_cons, List.length_nil, List.replicate, List.append_nil, List.cons_append, List.nil_append, List.getElem?_cons_zero, List.getElem?_cons_succ, List.set, Nat.zero_add, Nat.add_zero, Nat.le_refl, Nat.reduceAdd, Nat.reduceSub, Nat.reduceLeDiff, Int.reduceLT, Int.reduceLE, Int.reduceNeg, Int.reduceEq, true_and, and_true, true_or, or_true, not_true_eq_false, not_false_eq_true, false_implies, true_implies, implies_true, reduceIte, and_self, Int.reduceAdd, Int.reduceMul, Int.reduceSub, eq_self, Int.add_zero, Int.zero_add, String.reduceEq, Nat.zero_le, Option.some.injEq, Sum.inl.injEq, Sum.inr.injEq, reduceCtorEq, Int.reduceToNat, Option.toList_some, Option.toList_none, ac_cs, ac_c10, ac_c11, ac_c12, ac_c13, ac_c14, ac_c15, ac_c16, ac_c17, sc_E, sh_E, sc_I, sh_I, sc_II, sh_II, sc_III, sh_III, sc_R, sh_R, sc_RI, sh_RI, sc_RII, sh_RII, sc_RIII, sh_RIII, sc_RIIII, sh_RIIII, sc_RR, sh_RR, sc_RRI, sh_RRI, sc_RRR, sh_RRR, sc_RIR, sh_RIR, sc_RIRI, sh_RIRI, sc_RRII, sh_RRII, sc_RRIII, sh_RRIII, sc_RIIRR, sh_RIIRR, sc_RIIIRR, sh_RIIIRR, sc_RIIR, sh_RIIR, sc_RRIIR, sh_RRIIR, sc_RRIIIR, sh_RRIIIR, sc_RRIIIIR, sh_RRIIIIR, sc_RRIR, sh_RRIR]
  refine ⟨fun e => ?_, fun e => ?_⟩
  · exact OK_v (mt_tr hm hx) (mt_T hM) z0 fun s hT hS => ⟨rfl, by rw [vlToday, if_neg (fun w => e ((TS_td hT hS).1.mpr w))], TS_sc sc hT⟩
  · have e' := Decidable.not_not.mp e
    have h7 : 0 < T' 7 0 := by rw [sc 7 (by decide)]; exact e'.1
    simp only [mt_k hx, mt_K hx, mt_T hx, MI_sc sc hI, h7, ac_ent, ldI, ldR, stI, stR, inc, cI, cJ, cN, bop, oAdd, oSub, oMul, oAnd, oOr, oXor, oShl, oShr, oUshr, oRem, oDiv, oMx, oMn, oI2l, oLcmp, oDup, oDup2, oDupX1, oPop, bIc, bI0, bNul, getI, getR, putI, putZ, putR, aLen, aldI, aldZ, aldJ, aldR, astI, astZ, astJ, astR, nwO, nwA, gsT, oObj, oCpy, oCln, oCst, rtI, rtZ, rtR, rtV, thr, call, callH, ac_hsel, ac_as, ac_rs, ac_cs, ac_rcv, List.map_cons, List.map_nil, List.length_cons, List.length_nil, List.replicate, List.append_nil, List.cons_append, List.nil_append, List.getElem?_cons_zero, List.getElem?_cons_succ, List.set, Nat.zero_add, Nat.add_zero, Nat.le_refl, Nat.reduceAdd, Nat.reduceSub, Nat.reduceLeDiff, Int.reduceLT, Int.reduceLE, Int.reduceNeg, Int.reduceEq, true_and, and_true, true_or, or_true, not_true_eq_false, not_false_eq_true, false_implies, true_implies, implies_true, reduceIte, and_self, Int.reduceAdd, Int.reduceMul, Int.reduceSub, eq_self, Int.add_zero, Int.zero_add, String.reduceEq, Nat.zero_le, Option.some.injEq, Sum.inl.injEq, Sum.inr.injEq, reduceCtorEq, Int.reduceToNat, Option.toList_some, Option.toList_none, ac_cs, ac_c10, ac_c11, ac_c12, ac_c13, ac_c14, ac_c15, ac_c16, ac_c17, sc_E, sh_E, sc_I, sh_I, sc_II, sh_II, sc_III, sh_III, sc_R, sh_R, sc_RI, sh_RI, sc_RII, sh_RII, sc_RIII, sh_RIII, sc_RIIII, sh_RIIII, sc_RR, sh_RR, sc_RRI, sh_RRI, sc_RRR, sh_RRR, sc_RIR, sh_RIR, sc_RIRI, sh_RIRI, sc_RRII, sh_RRII, sc_RRIII, sh_RRIII, sc_RIIRR, sh_RIIRR, sc_RIIIRR, sh_RIIIRR, sc_RIIR, sh_RIIR, sc_RRIIR, sh_RRIIR, sc_RRIIIR, sh_RRIIIR, sc_RRIIIIR, sh_RRIIIIR, sc_RRIR, sh_RRIR]
    rintro v h2 ⟨rfl, rfl⟩
    simp only [ac_ent, ldI, ldR, stI, stR, inc, cI, cJ, cN, bop, oAdd, oSub, oMul, oAnd, oOr, oXor, oShl, oShr, oUshr, oRem, oDiv, oMx, oMn, oI2l, oLcmp, oDup, oDup2, oDupX1, oPop, bIc, bI0, bNul, getI, getR, putI, putZ, putR, aLen, aldI, aldZ, aldJ, aldR, astI, astZ, astJ, astR, nwO, nwA, gsT, oObj, oCpy, oCln, oCst, rtI, rtZ, rtR, rtV, thr, call, callH, ac_hsel, ac_as, ac_rs, ac_cs, ac_rcv, List.map_cons, List.map_nil, List.length_cons, List.length_nil, List.replicate, List.append_nil, List.cons_append, List.nil_append, List.getElem?_cons_zero, List.getElem?_cons_succ, List.set, Nat.zero_add, Nat.add_zero, Nat.le_refl, Nat.reduceAdd, Nat.reduceSub, Nat.reduceLeDiff, Int.reduceLT, Int.reduceLE, Int.reduceNeg, Int.reduceEq, true_and, and_true, true_or, or_true, not_true_eq_false, not_false_eq_true, false_implies, true_implies, implies_true, reduceIte, and_self, Int.reduceAdd, Int.reduceMul, Int.reduceSub, eq_self, Int.add_zero, Int.zero_add, String.reduceEq, Nat.zero_le, Option.some.injEq, Sum.inl.injEq, Sum.inr.injEq, reduceCtorEq, Int.reduceToNat, Option.toList_some, Option.toList_none, ac_cs, ac_c10, ac_c11, ac_c12, ac_c13, ac_c14, ac_c15, ac_c16, ac_c17, sc_E, sh_E, sc_I, sh_I, sc_II, sh_II, sc_III, sh_III, sc_R, sh_R, sc_RI, sh_RI, sc_RII, sh_RII, sc_RIII, sh_RIII, sc_RIIII, sh_RIIII, sc_RR, sh_RR, sc_RRI, sh_RRI, sc_RRR, sh_RRR, sc_RIR, sh_RIR, sc_RIRI, sh_RIRI, sc_RRII, sh_RRII, sc_RRIII, sh_RRIII, sc_RIIRR, sh_RIIRR, sc_RIIIRR, sh_RIIIRR, sc_RIIR, sh_RIIR, sc_RRIIR, sh_RRIIR, sc_RRIIIR, sh_RRIIIR, sc_RRIIIIR, sh_RRIIIIR, sc_RRIR, sh_RRIR]
    refine OK_v (mt_tr hm hx) (mt_T hM) z0 fun s hT hS => ⟨rfl, ?_, TS_sc sc hT⟩
    rw [vlToday, if_pos ((TS_td hT hS).1.mp e')]
    exact TS_hd hT hS e'.1 sc (h12 (e1.mpr e'))
