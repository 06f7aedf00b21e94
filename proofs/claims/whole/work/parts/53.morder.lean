/-! ===== the model: doors asked, orders, rules ===== -/
def spX9_hasDoor : ac_Sp := sc_RIIII (fun m d f r dr h => MW h m) (fun m d f r dr h v h' => OKm m h h' v (cdDoor d f r dr) (vlDoor d f r dr) id) (fun _ _ _ _ _ _ _ _ => False)
abbrev isRmT (T : mT) (d f r : Int) : Prop := ((0 ≤ d ∧ d < T 15 0) ∧ 0 ≤ f ∧ f < 3) ∧ 0 ≤ r ∧ r < 16
def ivX9_hasDoor (m d f r dr : Int) (h : ac_H) (T : mT) : Nat → Nat → ac_S := fun j mm => match j with
  | 0 => fun L S g k z => mm = 1 ∧ ent0 [some (.inr (.inl m)), some (.inl d), some (.inl f), some (.inl r), some (.inl dr), none] h L S g k z
  | 1 => fun L S g k z => mm = 0 ∧ ∃ c : Int, c = (if isRmT T d f r then (if 0 ≤ dr ∧ dr < 4 then 0 else 2) else 1) ∧ L = [some (.inr (.inl m)), some (.inl d), some (.inl f), some (.inl r), some (.inl dr), none] ∧ S = [.inl c, .inr (.inl m)] ∧ g = h ∧ k = 0 ∧ z = 0
  | _ => fun _ _ _ _ _ => False
set_option maxRecDepth 100000 in
set_option maxHeartbeats 4000000 in
theorem mtX9_hasDoor {G : ac_G} {l : Launch} : ac_Met G l yX9_hasDoor mX9_hasDoor 4 88 0 0 spX9_hasDoor := by
  refine ac_meth (pcs := pcX9_hasDoor) (B := fun P X J j => vcX9_hasDoor spX9_isRoom spX9_in spX9_holds P X J j) (by decide) rfl rfl rfl (fun P X J hJ j => sdX9_hasDoor mtX9_isRoom mtX9_in mtX9_holds P X J hJ j) (hp_RIIII (by decide)) fun As h hp => ?_
  obtain ⟨m, d, f, r, dr, rfl, hp⟩ := sh_RIIII_inv hp
  obtain ⟨T, hM, hI⟩ := MW_I hp
  have hI2 := hI.2.2.2.1
  refine ⟨ivX9_hasDoor m d f r dr h T, 1, ⟨rfl, rfl, rfl, rfl, rfl, rfl⟩, fun j mm L S g k z hJ => ?_⟩
  match j, hJ with
  | 0, hJ =>
    obtain ⟨hm, rfl, rfl, rfl, rfl, rfl⟩ := hJ
    simp only [spX9_hasDoor, vcX9_hasDoor, mX9_hasDoor, spX9_isRoom, spX9_in, spX9_holds, ac_ent, ldI, ldR, stI, stR, inc, cI, cJ, cN, bop, oAdd, oSub, oMul, oAnd, oOr, oXor, oShl, oShr, oUshr, oRem, oDiv, oMx, oMn, oI2l, oLcmp, oDup, oDup2, oDupX1, oPop, bIc, bI0, bNul, getI, getR, putI, putZ, putR, aLen, aldI, aldZ, aldJ, aldR, astI, astZ, astJ, astR, nwO, nwA, gsT, oObj, oCpy, oCln, oCst, rtI, rtZ, rtR, rtV, thr, call, callH, ac_hsel, ac_as, ac_rs, ac_cs, ac_rcv, List.map_cons, List.map_nil, List.length_cons, List.length_nil, List.replicate, List.append_nil, List.cons_append, List.nil_append, List.getElem?_cons_zero, List.getElem?_cons_succ, List.set, Nat.zero_add, Nat.add_zero, Nat.le_refl, Nat.reduceAdd, Nat.reduceSub, Nat.reduceLeDiff, Int.reduceLT, Int.reduceLE, Int.reduceNeg, Int.reduceEq, true_and, and_true, true_or, or_true, not_true_eq_false, not_false_eq_true, false_implies, true_implies, implies_true, reduceIte, and_self, Int.reduceAdd, Int.reduceMul, Int.reduceSub, eq_self, Int.add_zero, Int.zero_add, String.reduceEq, Nat.zero_le, Option.some.injEq, Sum.inl.injEq, Sum.inr.injEq, reduceCtorEq, Int.reduceToNat, Option.toList_some, Option.toList_none, ac_cs, ac_c10, ac_c11, ac_c12, ac_c13, ac_c14, ac_c15, ac_c16, ac_c17, sc_E, sh_E, sc_I, sh_I, sc_II, sh_II, sc_III, sh_III, sc_R, sh_R, sc_RI, sh_RI, sc_RII, sh_RII, sc_RIII, sh_RIII, sc_RIIII, sh_RIIII, sc_RR, sh_RR, sc_RRI, sh_RRI, sc_RRR, sh_RRR, sc_RIR, sh_RIR, sc_RIRI, sh_RIRI, sc_RRII, sh_RRII, sc_RRIII, sh_RRIII, sc_RIIRR, sh_RIIRR, sc_RIIIRR, sh_RIIIRR, sc_RIIR, sh_RIIR, sc_RRIIR, sh_RRIIR, sc_RRIIIR, sh_RRIIIR, sc_RRIIIIR, sh_RRIIIIR, sc_RRIR, sh_RRIR, mt_k hM, mr_1 hM, mt_K hM, mt_T hM, hI]
    rintro v h' ⟨rfl, rfl⟩
    simp only [b01_0, ac_ent, ldI, ldR, stI, stR, inc, cI, cJ, cN, bop, oAdd, oSub, oMul, oAnd, oOr, oXor, oShl, oShr, oUshr, oRem, oDiv, oMx, oMn, oI2l, oLcmp, oDup, oDup2, oDupX1, oPop, bIc, bI0, bNul, getI, getR, putI, putZ, putR, aLen, aldI, aldZ, aldJ, aldR, astI, astZ, astJ, astR, nwO, nwA, gsT, oObj, oCpy, oCln, oCst, rtI, rtZ, rtR, rtV, thr, call, callH, ac_hsel, ac_as, ac_rs, ac_cs, ac_rcv, List.map_cons, List.map_nil, List.length_cons, List.length_nil, List.replicate, List.append_nil, List.cons_append, List.nil_append, List.getElem?_cons_zero, List.getElem?_cons_succ, List.set, Nat.zero_add, Nat.add_zero, Nat.le_refl, Nat.reduceAdd, Nat.reduceSub, Nat.reduceLeDiff, Int.reduceLT, Int.reduceLE, Int.reduceNeg, Int.reduceEq, true_and, and_true, true_or, or_true, not_true_eq_false, not_false_eq_true, false_implies, true_implies, implies_true, reduceIte, and_self, Int.reduceAdd, Int.reduceMul, Int.reduceSub, eq_self, Int.add_zero, Int.zero_add, String.reduceEq, Nat.zero_le, Option.some.injEq, Sum.inl.injEq, Sum.inr.injEq, reduceCtorEq, Int.reduceToNat, Option.toList_some, Option.toList_none, ac_cs, ac_c10, ac_c11, ac_c12, ac_c13, ac_c14, ac_c15, ac_c16, ac_c17, sc_E, sh_E, sc_I, sh_I, sc_II, sh_II, sc_III, sh_III, sc_R, sh_R, sc_RI, sh_RI, sc_RII, sh_RII, sc_RIII, sh_RIII, sc_RIIII, sh_RIIII, sc_RR, sh_RR, sc_RRI, sh_RRI, sc_RRR, sh_RRR, sc_RIR, sh_RIR, sc_RIRI, sh_RIRI, sc_RRII, sh_RRII, sc_RRIII, sh_RRIII, sc_RIIRR, sh_RIIRR, sc_RIIIRR, sh_RIIIRR, sc_RIIR, sh_RIIR, sc_RRIIR, sh_RRIIR, sc_RRIIIR, sh_RRIIIR, sc_RRIIIIR, sh_RRIIIIR, sc_RRIR, sh_RRIR]
    refine ⟨fun e => ⟨0, by omega, rfl, _, by rw [if_neg e], rfl, rfl, rfl, rfl, rfl⟩, fun e => ?_⟩
    rintro v h2 ⟨rfl, rfl⟩
    simp only [b01_0, ac_ent, ldI, ldR, stI, stR, inc, cI, cJ, cN, bop, oAdd, oSub, oMul, oAnd, oOr, oXor, oShl, oShr, oUshr, oRem, oDiv, oMx, oMn, oI2l, oLcmp, oDup, oDup2, oDupX1, oPop, bIc, bI0, bNul, getI, getR, putI, putZ, putR, aLen, aldI, aldZ, aldJ, aldR, astI, astZ, astJ, astR, nwO, nwA, gsT, oObj, oCpy, oCln, oCst, rtI, rtZ, rtR, rtV, thr, call, callH, ac_hsel, ac_as, ac_rs, ac_cs, ac_rcv, List.map_cons, List.map_nil, List.length_cons, List.length_nil, List.replicate, List.append_nil, List.cons_append, List.nil_append, List.getElem?_cons_zero, List.getElem?_cons_succ, List.set, Nat.zero_add, Nat.add_zero, Nat.le_refl, Nat.reduceAdd, Nat.reduceSub, Nat.reduceLeDiff, Int.reduceLT, Int.reduceLE, Int.reduceNeg, Int.reduceEq, true_and, and_true, true_or, or_true, not_true_eq_false, not_false_eq_true, false_implies, true_implies, implies_true, reduceIte, and_self, Int.reduceAdd, Int.reduceMul, Int.reduceSub, eq_self, Int.add_zero, Int.zero_add, String.reduceEq, Nat.zero_le, Option.some.injEq, Sum.inl.injEq, Sum.inr.injEq, reduceCtorEq, Int.reduceToNat, Option.toList_some, Option.toList_none, ac_cs, ac_c10, ac_c11, ac_c12, ac_c13, ac_c14, ac_c15, ac_c16, ac_c17, sc_E, sh_E, sc_I, sh_I, sc_II, sh_II, sc_III, sh_III, sc_R, sh_R, sc_RI, sh_RI, sc_RII, sh_RII, sc_RIII, sh_RIII, sc_RIIII, sh_RIIII, sc_RR, sh_RR, sc_RRI, sh_RRI, sc_RRR, sh_RRR, sc_RIR, sh_RIR, sc_RIRI, sh_RIRI, sc_RRII, sh_RRII, sc_RRIII, sh_RRIII, sc_RIIRR, sh_RIIRR, sc_RIIIRR, sh_RIIIRR, sc_RIIR, sh_RIIR, sc_RRIIR, sh_RRIIR, sc_RRIIIR, sh_RRIIIR, sc_RRIIIIR, sh_RRIIIIR, sc_RRIR, sh_RRIR]
    exact ⟨fun e2 => ⟨0, by omega, rfl, _, by rw [if_pos (Decidable.not_not.mp e), if_neg (by omega)], rfl, rfl, rfl, rfl, rfl⟩, fun e2 => ⟨0, by omega, rfl, _, by rw [if_pos (Decidable.not_not.mp e), if_pos (by omega)], rfl, rfl, rfl, rfl, rfl⟩⟩
  | 1, hJ =>
    obtain ⟨hm, c, hc, rfl, rfl, rfl, rfl, rfl⟩ := hJ
    have cc : ∀ s, TS T s → SI s → cdDoor d f r dr s = c := fun s hT hS => by
      rw [hc]
      unfold cdDoor isRm isF isRmT
      rw [hT.2.2.2.1.1]
    simp only [spX9_hasDoor, vcX9_hasDoor, mX9_hasDoor, spX9_isRoom, spX9_in, spX9_holds, ac_ent, ldI, ldR, stI, stR, inc, cI, cJ, cN, bop, oAdd, oSub, oMul, oAnd, oOr, oXor, oShl, oShr, oUshr, oRem, oDiv, oMx, oMn, oI2l, oLcmp, oDup, oDup2, oDupX1, oPop, bIc, bI0, bNul, getI, getR, putI, putZ, putR, aLen, aldI, aldZ, aldJ, aldR, astI, astZ, astJ, astR, nwO, nwA, gsT, oObj, oCpy, oCln, oCst, rtI, rtZ, rtR, rtV, thr, call, callH, ac_hsel, ac_as, ac_rs, ac_cs, ac_rcv, List.map_cons, List.map_nil, List.length_cons, List.length_nil, List.replicate, List.append_nil, List.cons_append, List.nil_append, List.getElem?_cons_zero, List.getElem?_cons_succ, List.set, Nat.zero_add, Nat.add_zero, Nat.le_refl, Nat.reduceAdd, Nat.reduceSub, Nat.reduceLeDiff, Int.reduceLT, Int.reduceLE, Int.reduceNeg, Int.reduceEq, true_and, and_true, true_or, or_true, not_true_eq_false, not_false_eq_true, false_implies, true_implies, implies_true, reduceIte, and_self, Int.reduceAdd, Int.reduceMul, Int.reduceSub, eq_self, Int.add_zero, Int.zero_add, String.reduceEq, Nat.zero_le, Option.some.injEq, Sum.inl.injEq, Sum.inr.injEq, reduceCtorEq, Int.reduceToNat, Option.toList_some, Option.toList_none, ac_cs, ac_c10, ac_c11, ac_c12, ac_c13, ac_c14, ac_c15, ac_c16, ac_c17, sc_E, sh_E, sc_I, sh_I, sc_II, sh_II, sc_III, sh_III, sc_R, sh_R, sc_RI, sh_RI, sc_RII, sh_RII, sc_RIII, sh_RIII, sc_RIIII, sh_RIIII, sc_RR, sh_RR, sc_RRI, sh_RRI, sc_RRR, sh_RRR, sc_RIR, sh_RIR, sc_RIRI, sh_RIRI, sc_RRII, sh_RRII, sc_RRIII, sh_RRIII, sc_RIIRR, sh_RIIRR, sc_RIIIRR, sh_RIIIRR, sc_RIIR, sh_RIIR, sc_RRIIR, sh_RRIIR, sc_RRIIIR, sh_RRIIIR, sc_RRIIIIR, sh_RRIIIIR, sc_RRIR, sh_RRIR, mt_k hM, mt_K hM, mt_T hM]
    rintro v h' ⟨hx, rfl⟩
    simp only [b01_0, ac_ent, ldI, ldR, stI, stR, inc, cI, cJ, cN, bop, oAdd, oSub, oMul, oAnd, oOr, oXor, oShl, oShr, oUshr, oRem, oDiv, oMx, oMn, oI2l, oLcmp, oDup, oDup2, oDupX1, oPop, bIc, bI0, bNul, getI, getR, putI, putZ, putR, aLen, aldI, aldZ, aldJ, aldR, astI, astZ, astJ, astR, nwO, nwA, gsT, oObj, oCpy, oCln, oCst, rtI, rtZ, rtR, rtV, thr, call, callH, ac_hsel, ac_as, ac_rs, ac_cs, ac_rcv, List.map_cons, List.map_nil, List.length_cons, List.length_nil, List.replicate, List.append_nil, List.cons_append, List.nil_append, List.getElem?_cons_zero, List.getElem?_cons_succ, List.set, Nat.zero_add, Nat.add_zero, Nat.le_refl, Nat.reduceAdd, Nat.reduceSub, Nat.reduceLeDiff, Int.reduceLT, Int.reduceLE, Int.reduceNeg, Int.reduceEq, true_and, and_true, true_or, or_true, not_true_eq_false, not_false_eq_true, false_implies, true_implies, implies_true, reduceIte, and_self, Int.reduceAdd, Int.reduceMul, Int.reduceSub, eq_self, Int.add_zero, Int.zero_add, String.reduceEq, Nat.zero_le, Option.some.injEq, Sum.inl.injEq, Sum.inr.injEq, reduceCtorEq, Int.reduceToNat, Option.toList_some, Option.toList_none, ac_cs, ac_c10, ac_c11, ac_c12, ac_c13, ac_c14, ac_c15, ac_c16, ac_c17, sc_E, sh_E, sc_I, sh_I, sc_II, sh_II, sc_III, sh_III, sc_R, sh_R, sc_RI, sh_RI, sc_RII, sh_RII, sc_RIII, sh_RIII, sc_RIIII, sh_RIIII, sc_RR, sh_RR, sc_RRI, sh_RRI, sc_RRR, sh_RRR, sc_RIR, sh_RIR, sc_RIRI, sh_RIRI, sc_RRII, sh_RRII, sc_RRIII, sh_RRIII, sc_RIIRR, sh_RIIRR, sc_RIIIRR, sh_RIIIRR, sc_RIIR, sh_RIIR, sc_RRIIR, sh_RRIIR, sc_RRIIIR, sh_RRIIIR, sc_RRIIIIR, sh_RRIIIIR, sc_RRIR, sh_RRIR]
    refine ⟨fun e => OK_e hx (mt_T hM) e cc, fun e => ?_⟩
    have e0 : c = 0 := Decidable.not_not.mp e
    subst e0
    have ar : isRmT T d f r := by
      by_cases q : isRmT T d f r
      · exact q
      · rw [if_neg q] at hc; exact absurd hc (by decide)
    have ir : 0 ≤ dr ∧ dr < 4 := by
      by_cases q : 0 ≤ dr ∧ dr < 4
      · exact q
      · rw [if_pos ar, if_neg q] at hc; exact absurd hc (by decide)
    simp only [mt_k hx, mr_18 hx, mk_18 hx, ml_18 hx, tu_k, tu_s, ne_eq, Nat.reduceEqDiff, not_false_eq_true, ac_ent, ldI, ldR, stI, stR, inc, cI, cJ, cN, bop, oAdd, oSub, oMul, oAnd, oOr, oXor, oShl, oShr, oUshr, oRem, oDiv, oMx, oMn, oI2l, oLcmp, oDup, oDup2, oDupX1, oPop, bIc, bI0, bNul, getI, getR, putI, putZ, putR, aLen, aldI, aldZ, aldJ, aldR, astI, astZ, astJ, astR, nwO, nwA, gsT, oObj, oCpy, oCln, oCst, rtI, rtZ, rtR, rtV, thr, call, callH, ac_hsel, ac_as, ac_rs, ac_cs, ac_rcv, List.map_cons, List.map_nil, List.length_cons, List.length_nil, List.replicate, List.append_nil, List.cons_append, List.nil_append, List.getElem?_cons_zero, List.getElem?_cons_succ, List.set, Nat.zero_add, Nat.add_zero, Nat.le_refl, Nat.reduceAdd, Nat.reduceSub, Nat.reduceLeDiff, Int.reduceLT, Int.reduceLE, Int.reduceNeg, Int.reduceEq, true_and, and_true, true_or, or_true, not_true_eq_false, not_false_eq_true, false_implies, true_implies, implies_true, reduceIte, and_self, Int.reduceAdd, Int.reduceMul, Int.reduceSub, eq_self, Int.add_zero, Int.zero_add, String.reduceEq, Nat.zero_le, Option.some.injEq, Sum.inl.injEq, Sum.inr.injEq, reduceCtorEq, Int.reduceToNat, Option.toList_some, Option.toList_none, ac_cs, ac_c10, ac_c11, ac_c12, ac_c13, ac_c14, ac_c15, ac_c16, ac_c17, sc_E, sh_E, sc_I, sh_I, sc_II, sh_II, sc_III, sh_III, sc_R, sh_R, sc_RI, sh_RI, sc_RII, sh_RII, sc_RIII, sh_RIII, sc_RIIII, sh_RIIII, sc_RR, sh_RR, sc_RRI, sh_RRI, sc_RRR, sh_RRR, sc_RIR, sh_RIR, sc_RIRI, sh_RIRI, sc_RRII, sh_RRII, sc_RRIII, sh_RRIII, sc_RIIRR, sh_RIIRR, sc_RIIIRR, sh_RIIIRR, sc_RIIR, sh_RIIR, sc_RRIIR, sh_RRIIR, sc_RRIIIR, sh_RRIIIR, sc_RRIIIIR, sh_RRIIIIR, sc_RRIR, sh_RRIR]
    simp (disch := omega) only [wr_of]
    have b1 := bt_01 (b := T 18 (16 * (3 * d + f) + r)) (i := dr) (by omega) (by omega)
    have vv : ∀ s, TS T s → SI s → vlDoor d f r dr s = if bt (T 18 (16 * (3 * d + f) + r)) dr = 0 then 0 else 1 := fun s hT hS => by
      have h1 := hT.2.2.2.1.1
      have w := hT.2.2.2.1.2.2.1 (3 * d + f) r (by omega) (by omega) (by omega) (by omega)
      have dk := (hS.2.2.2.2.2.2.2.2.2.2.1 d f (by omega) (by omega) (by omega) (by omega)).2.2.2 r dr (by omega) (by omega) (by omega) (by omega)
      rw [w.1]
      unfold vlDoor bhd
      by_cases q : bt (s 14 (3 * d + f) r) dr = 0
      · rw [if_pos q, if_pos rfl, if_pos q]
      · rw [if_neg q, if_neg (dk q), if_neg q]
    refine ⟨⟨by omega, by omega⟩, fun e1 => ?_, fun e1 => ?_⟩
    · have e1 : bt (T 18 (16 * (3 * d + f) + r)) dr = 1 := e1
      exact OK_v hx (mt_T hM) tu_s fun s hT hS => ⟨cc s hT hS, by rw [vv s hT hS, if_neg (by omega)], TS_0 hT⟩
    · have e1 : ¬ bt (T 18 (16 * (3 * d + f) + r)) dr = 1 := e1
      exact OK_v hx (mt_T hM) tu_s fun s hT hS => ⟨cc s hT hS, by rw [vv s hT hS, if_pos (by omega)], TS_0 hT⟩
  | j + 2, hJ => exact hJ.elim
def spX9_next : ac_Sp := sc_RII (fun m set st h => MK h m ∧ MI (tv h m)) (fun m set st h v h' => h' = h ∧ v = some (.inl (nx (tv h m 6) (tv h m 1 0) (iand set (ixor st (-1))) st))) (fun _ _ _ _ _ _ => False)
def ivX9_next (m set st : Int) (h : ac_H) (T : mT) : Nat → Nat → ac_S := fun j mm => match j with
  | 0 => fun L S g k z => mm = 19 ∧ ent0 [some (.inr (.inl m)), some (.inl set), some (.inl st), none] h L S g k z
  | 1 => fun L S g k z => ∃ i : Int, 0 ≤ i ∧ i ≤ T 1 0 ∧ (mm : Int) = 10 - i ∧ (∀ j, 0 ≤ j → j < i → ¬ (¬ bt (iand set (ixor st (-1))) j = 0 ∧ iand (T 6 j) (ixor st (-1)) = 0)) ∧ L = [some (.inr (.inl m)), some (.inl set), some (.inl st), some (.inl i)] ∧ S = [] ∧ g = h ∧ k = 0 ∧ z = 0
  | _ => fun _ _ _ _ _ => False
set_option maxRecDepth 100000 in
set_option maxHeartbeats 4000000 in
theorem mtX9_next {G : ac_G} {l : Launch} : ac_Met G l yX9_next mX9_next 0 0 0 0 spX9_next := by
  refine ac_meth (pcs := pcX9_next) (B := fun P X J j => vcX9_next P X J j) (by decide) rfl rfl rfl (fun P X J hJ j => sdX9_next P X J hJ j) (hp_RII (by decide)) fun As h hp => ?_
  obtain ⟨m, set, st, rfl, hp⟩ := sh_RII_inv hp
  obtain ⟨hK, hI⟩ := hp
  have hM := mt_0 hK
  obtain ⟨T, hT⟩ : ∃ T, tv h m = T := ⟨_, rfl⟩
  rw [hT] at hI hM
  have hI1 := hI.1
  refine ⟨ivX9_next m set st h T, 19, ⟨rfl, rfl, rfl, rfl, rfl, rfl⟩, fun j mm L S g k z hJ => ?_⟩
  match j, hJ with
  | 0, hJ =>
    obtain ⟨hm, rfl, rfl, rfl, rfl, rfl⟩ := hJ
    simp only [spX9_next, vcX9_next, mX9_next, ac_ent, ldI, ldR, stI, stR, inc, cI, cJ, cN, bop, oAdd, oSub, oMul, oAnd, oOr, oXor, oShl, oShr, oUshr, oRem, oDiv, oMx, oMn, oI2l, oLcmp, oDup, oDup2, oDupX1, oPop, bIc, bI0, bNul, getI, getR, putI, putZ, putR, aLen, aldI, aldZ, aldJ, aldR, astI, astZ, astJ, astR, nwO, nwA, gsT, oObj, oCpy, oCln, oCst, rtI, rtZ, rtR, rtV, thr, call, callH, ac_hsel, ac_as, ac_rs, ac_cs, ac_rcv, List.map_cons, List.map_nil, List.length_cons, List.length_nil, List.replicate, List.append_nil, List.cons_append, List.nil_append, List.getElem?_cons_zero, List.getElem?_cons_succ, List.set, Nat.zero_add, Nat.add_zero, Nat.le_refl, Nat.reduceAdd, Nat.reduceSub, Nat.reduceLeDiff, Int.reduceLT, Int.reduceLE, Int.reduceNeg, Int.reduceEq, true_and, and_true, true_or, or_true, not_true_eq_false, not_false_eq_true, false_implies, true_implies, implies_true, reduceIte, and_self, Int.reduceAdd, Int.reduceMul, Int.reduceSub, eq_self, Int.add_zero, Int.zero_add, String.reduceEq, Nat.zero_le, Option.some.injEq, Sum.inl.injEq, Sum.inr.injEq, reduceCtorEq, Int.reduceToNat, Option.toList_some, Option.toList_none, ac_cs, ac_c10, ac_c11, ac_c12, ac_c13, ac_c14, ac_c15, ac_c16, ac_c17, sc_E, sh_E, sc_I, sh_I, sc_II, sh_II, sc_III, sh_III, sc_R, sh_R, sc_RI, sh_RI, sc_RII, sh_RII, sc_RIII, sh_RIII, sc_RIIII, sh_RIIII, sc_RR, sh_RR, sc_RRI, sh_RRI, sc_RRR, sh_RRR, sc_RIR, sh_RIR, sc_RIRI, sh_RIRI, sc_RRII, sh_RRII, sc_RRIII, sh_RRIII, sc_RIIRR, sh_RIIRR, sc_RIIIRR, sh_RIIIRR, sc_RIIR, sh_RIIR, sc_RRIIR, sh_RRIIR, sc_RRIIIR, sh_RRIIIR, sc_RRIIIIR, sh_RRIIIIR, sc_RRIR, sh_RRIR]
    exact ⟨10, by omega, 0, by omega, by omega, by omega, (fun j a b => by omega), rfl, rfl, rfl, rfl, rfl⟩
  | 1, hJ =>
    obtain ⟨i, i0, i1, hm, hi, rfl, rfl, rfl, rfl, rfl⟩ := hJ
    simp only [spX9_next, vcX9_next, mX9_next, ac_ent, ldI, ldR, stI, stR, inc, cI, cJ, cN, bop, oAdd, oSub, oMul, oAnd, oOr, oXor, oShl, oShr, oUshr, oRem, oDiv, oMx, oMn, oI2l, oLcmp, oDup, oDup2, oDupX1, oPop, bIc, bI0, bNul, getI, getR, putI, putZ, putR, aLen, aldI, aldZ, aldJ, aldR, astI, astZ, astJ, astR, nwO, nwA, gsT, oObj, oCpy, oCln, oCst, rtI, rtZ, rtR, rtV, thr, call, callH, ac_hsel, ac_as, ac_rs, ac_cs, ac_rcv, List.map_cons, List.map_nil, List.length_cons, List.length_nil, List.replicate, List.append_nil, List.cons_append, List.nil_append, List.getElem?_cons_zero, List.getElem?_cons_succ, List.set, Nat.zero_add, Nat.add_zero, Nat.le_refl, Nat.reduceAdd, Nat.reduceSub, Nat.reduceLeDiff, Int.reduceLT, Int.reduceLE, Int.reduceNeg, Int.reduceEq, true_and, and_true, true_or, or_true, not_true_eq_false, not_false_eq_true, false_implies, true_implies, implies_true, reduceIte, and_self, Int.reduceAdd, Int.reduceMul, Int.reduceSub, eq_self, Int.add_zero, Int.zero_add, String.reduceEq, Nat.zero_le, Option.some.injEq, Sum.inl.injEq, Sum.inr.injEq, reduceCtorEq, Int.reduceToNat, Option.toList_some, Option.toList_none, ac_cs, ac_c10, ac_c11, ac_c12, ac_c13, ac_c14, ac_c15, ac_c16, ac_c17, sc_E, sh_E, sc_I, sh_I, sc_II, sh_II, sc_III, sh_III, sc_R, sh_R, sc_RI, sh_RI, sc_RII, sh_RII, sc_RIII, sh_RIII, sc_RIIII, sh_RIIII, sc_RR, sh_RR, sc_RRI, sh_RRI, sc_RRR, sh_RRR, sc_RIR, sh_RIR, sc_RIRI, sh_RIRI, sc_RRII, sh_RRII, sc_RRIII, sh_RRIII, sc_RIIRR, sh_RIIRR, sc_RIIIRR, sh_RIIIRR, sc_RIIR, sh_RIIR, sc_RRIIR, sh_RRIIR, sc_RRIIIR, sh_RRIIIR, sc_RRIIIIR, sh_RRIIIIR, sc_RRIR, sh_RRIR, mt_k hM, mr_1 hM, mr_6 hM, mk_6 hM, ml_6 hM, hT]
    refine ⟨fun q => ?_, fun q => ⟨fun e => ⟨by omega, fun e2 => ?_, fun e2 => ?_⟩, fun e => ?_⟩⟩
    · rw [nx, fnd_none]
      intro j j0 j1
      have := hi j j0 (by omega)
      simpa using this
    · have e : bt (iand set (ixor st (-1))) i = 1 := e
      refine (fnd_some i0 (by omega) ?_ fun j j0 j1 => ?_).symm
      · simp [e, e2]
      · have := hi j j0 (by omega)
        simpa using this
    · have e : bt (iand set (ixor st (-1))) i = 1 := e
      refine ⟨(9 - i).toNat, by omega, i + 1, by omega, by omega, by omega, fun j j0 j1 => ?_, by rw [wr_of (by omega) (by omega)], rfl, rfl, rfl, rfl⟩
      by_cases w : j = i
      · subst w; exact fun a => e2 a.2
      · exact hi j j0 (by omega)
    · have e : ¬ bt (iand set (ixor st (-1))) i = 1 := e
      have b1 := bt_01 (b := iand set (ixor st (-1))) (i := i) (by omega) (by omega)
      refine ⟨(9 - i).toNat, by omega, i + 1, by omega, by omega, by omega, fun j j0 j1 => ?_, by rw [wr_of (by omega) (by omega)], rfl, rfl, rfl, rfl⟩
      by_cases w : j = i
      · subst w; exact fun a => a.1 (by omega)
      · exact hi j j0 (by omega)
  | j + 2, hJ => exact hJ.elim
/-- places below n that do not stand -/
def fcn (st : Int) : Nat → Nat
  | 0 => 0
  | n + 1 => fcn st n + (if lb st n = true then 0 else 1)
theorem fcn_le (st : Int) : ∀ n, fcn st n ≤ n
  | 0 => by simp [fcn]
  | n + 1 => by
    have := fcn_le st n
    rw [fcn]; split <;> omega
theorem fcn_pos {st : Int} {i : Nat} : ∀ n, i < n → lb st i = false → 0 < fcn st n
  | 0, h, _ => by omega
  | n + 1, h, e => by
    rw [fcn]
    by_cases q : i = n
    · subst q; simp [e]
    · have := fcn_pos n (by omega) e
      omega
theorem fcn_set {st : Int} {p : Nat} (hp : p < 32) (e : lb st p = false) : ∀ n, n ≤ 32 → fcn (ior st (ishl 1 p)) n + (if p < n then 1 else 0) = fcn st n
  | 0, _ => by simp [fcn]
  | n + 1, hn => by
    have ih := fcn_set hp e n (by omega)
    have w : lb (ior st (ishl 1 p)) n = (lb st n || decide ((n : Int) = p)) := by rw [lb_or, lb_shl (by omega) (by omega) (by omega) (by omega)]
    rw [fcn, fcn, w]
    by_cases q : p = n
    · subst q
      rw [if_neg (show ¬ p < p by omega)] at ih
      rw [if_pos (show p < p + 1 by omega)]
      simp [e]
      omega
    · have q2 : ¬ ((n : Int) = p) := by omega
      by_cases q3 : p < n
      · rw [if_pos q3] at ih
        rw [if_pos (show p < n + 1 by omega)]
        simp only [q2, decide_false, Bool.or_false]
        omega
      · rw [if_neg q3] at ih
        rw [if_neg (show ¬ p < n + 1 by omega)]
        simp only [q2, decide_false, Bool.or_false]
        omega
theorem nx_some {nd : Int → Int} {c set st : Int} (c1 : c ≤ 32) (h : nx nd c (iand set (ixor st (-1))) st ≠ -1) : 0 ≤ nx nd c (iand set (ixor st (-1))) st ∧ nx nd c (iand set (ixor st (-1))) st < c ∧ lb st (nx nd c (iand set (ixor st (-1))) st) = false := by
  unfold nx at h ⊢
  rcases fnd_cases (P := fun i => decide (¬ bt (iand set (ixor st (-1))) i = 0 ∧ iand (nd i) (ixor st (-1)) = 0)) c.toNat with ⟨e1, e2⟩ | ⟨e1, e2, e3, e4⟩
  · exact absurd e1 h
  · refine ⟨e1, by omega, ?_⟩
    have e3 := of_decide_eq_true e3
    have a := e3.1
    rw [bt_lb e1 (by omega), lb_and, lb_not e1 (by omega)] at a
    generalize fnd _ _ = q at a
    cases hq : lb st q
    · rfl
    · rw [hq] at a; simp at a
theorem stp_fcn {nd : Int → Int} {c set : Int} (c0 : 0 ≤ c) (c1 : c ≤ 32) : ∀ n : Nat, (∀ i, i < n → ore nd c set i ≠ -1) → fcn (stp nd c set n) c.toNat + n = c.toNat
  | 0, _ => by
    have : ∀ m : Nat, m ≤ 32 → fcn 0 m = m := by
      intro m
      induction m with
      | zero => intro _; rfl
      | succ m ih => intro hm; rw [fcn, ih (by omega), lb_0]; simp
    rw [stp, this _ (by omega)]
    omega
  | n + 1, h => by
    have ih := stp_fcn c0 c1 n (fun i hi => h i (by omega))
    have a := nx_some c1 (h n (by omega))
    have b := fcn_set (st := stp nd c set n) (p := (ore nd c set n).toNat) (by have := a.1; have := a.2.1; unfold ore; omega) (by unfold ore; rw [Int.toNat_of_nonneg a.1]; exact a.2.2) c.toNat (by omega)
    rw [if_pos (by have := a.1; have := a.2.1; unfold ore; omega), Int.toNat_of_nonneg (by unfold ore; exact a.1)] at b
    rw [stp]
    unfold ore at b
    omega
theorem ore_lt {nd : Int → Int} {c set : Int} (c0 : 0 ≤ c) (c1 : c ≤ 10) {n : Nat} (h : ∀ i, i ≤ n → ore nd c set i ≠ -1) : (n : Int) < c := by
  have a := stp_fcn (nd := nd) (set := set) c0 (by omega) n (fun i hi => h i (by omega))
  have b := nx_some (by omega) (h n (by omega))
  have d := fcn_pos (st := stp nd c set n) (i := (nx nd c (iand set (ixor (stp nd c set n) (-1))) (stp nd c set n)).toNat) c.toNat (by have := b.1; have := b.2.1; omega) (by rw [Int.toNat_of_nonneg b.1]; exact b.2.2)
  omega
def spX9_orders : ac_Sp := sc_RI (fun m set h => MK h m ∧ MI (tv h m)) (fun m set h v h' => ∃ T' n, MT h h' m T' ∧ (∀ k, k ≠ 13 → k ≠ 14 → T' k = tv h m k) ∧ T' 14 0 = ((n : Nat) : Int) ∧ orN (tv h m 6) (tv h m 1 0) set n ∧ (∀ i : Nat, i < n → T' 13 i = ore (tv h m 6) (tv h m 1 0) set i) ∧ v = some (.inl (b01 (stp (tv h m 6) (tv h m 1 0) set n = set)))) (fun _ _ _ _ _ => False)
def ivX9_orders (m set : Int) (h : ac_H) (T : mT) : Nat → Nat → ac_S := fun j mm => match j with
  | 0 => fun L S g k z => mm = 19 ∧ ent0 [some (.inr (.inl m)), some (.inl set), none, none] h L S g k z
  | 1 => fun L S g k z => ∃ (i : Nat) (T' : mT), i ≤ 10 ∧ mm = 10 - i ∧ MT h g m T' ∧ (∀ k, k ≠ 13 → k ≠ 14 → T' k = T k) ∧ T' 14 0 = i ∧ (∀ j : Nat, j < i → ore (T 6) (T 1 0) set j ≠ -1 ∧ T' 13 j = ore (T 6) (T 1 0) set j) ∧ L = [some (.inr (.inl m)), some (.inl set), some (.inl (stp (T 6) (T 1 0) set i)), some (.inl (ore (T 6) (T 1 0) set i))] ∧ S = [] ∧ k = 0 ∧ z = 0
  | _ => fun _ _ _ _ _ => False
set_option maxRecDepth 100000 in
set_option maxHeartbeats 4000000 in
theorem mtX9_orders {G : ac_G} {l : Launch} : ac_Met G l yX9_orders mX9_orders 1 23 0 0 spX9_orders := by
  refine ac_meth (pcs := pcX9_orders) (B := fun P X J j => vcX9_orders spX9_next P X J j) (by decide) rfl rfl rfl (fun P X J hJ j => sdX9_orders mtX9_next P X J hJ j) (hp_RI (by decide)) fun As h hp => ?_
  obtain ⟨m, set, rfl, hp⟩ := sh_RI_inv hp
  obtain ⟨hK, hI⟩ := hp
  have hM := mt_0 hK
  obtain ⟨T, hT⟩ : ∃ T, tv h m = T := ⟨_, rfl⟩
  rw [hT] at hI hM
  have hI1 := hI.1
  refine ⟨ivX9_orders m set h T, 19, ⟨rfl, rfl, rfl, rfl, rfl, rfl⟩, fun j mm L S g k z hJ => ?_⟩
  match j, hJ with
  | 0, hJ =>
    obtain ⟨hm, rfl, rfl, rfl, rfl, rfl⟩ := hJ
    have hx := mt_f 14 hM rfl (v := 0)
    have hIx : MI (tu T 14 0 0) := by simp only [MI, tu_k, tu_s, ne_eq, Nat.reduceEqDiff, not_false_eq_true]; exact hI
    have e6 : tu T 14 0 0 6 = T 6 := tu_k (by decide)
    have e1 : tu T 14 0 0 1 = T 1 := tu_k (by decide)
    have hx' : MT g (up g 1014 m 0 0) m (tu T 14 0 0) := hx
    simp only [spX9_orders, vcX9_orders, mX9_orders, spX9_next, ac_ent, ldI, ldR, stI, stR, inc, cI, cJ, cN, bop, oAdd, oSub, oMul, oAnd, oOr, oXor, oShl, oShr, oUshr, oRem, oDiv, oMx, oMn, oI2l, oLcmp, oDup, oDup2, oDupX1, oPop, bIc, bI0, bNul, getI, getR, putI, putZ, putR, aLen, aldI, aldZ, aldJ, aldR, astI, astZ, astJ, astR, nwO, nwA, gsT, oObj, oCpy, oCln, oCst, rtI, rtZ, rtR, rtV, thr, call, callH, ac_hsel, ac_as, ac_rs, ac_cs, ac_rcv, List.map_cons, List.map_nil, List.length_cons, List.length_nil, List.replicate, List.append_nil, List.cons_append, List.nil_append, List.getElem?_cons_zero, List.getElem?_cons_succ, List.set, Nat.zero_add, Nat.add_zero, Nat.le_refl, Nat.reduceAdd, Nat.reduceSub, Nat.reduceLeDiff, Int.reduceLT, Int.reduceLE, Int.reduceNeg, Int.reduceEq, true_and, and_true, true_or, or_true, not_true_eq_false, not_false_eq_true, false_implies, true_implies, implies_true, reduceIte, and_self, Int.reduceAdd, Int.reduceMul, Int.reduceSub, eq_self, Int.add_zero, Int.zero_add, String.reduceEq, Nat.zero_le, Option.some.injEq, Sum.inl.injEq, Sum.inr.injEq, reduceCtorEq, Int.reduceToNat, Option.toList_some, Option.toList_none, ac_cs, ac_c10, ac_c11, ac_c12, ac_c13, ac_c14, ac_c15, ac_c16, ac_c17, sc_E, sh_E, sc_I, sh_I, sc_II, sh_II, sc_III, sh_III, sc_R, sh_R, sc_RI, sh_RI, sc_RII, sh_RII, sc_RIII, sh_RIII, sc_RIIII, sh_RIIII, sc_RR, sh_RR, sc_RRI, sh_RRI, sc_RRR, sh_RRR, sc_RIR, sh_RIR, sc_RIRI, sh_RIRI, sc_RRII, sh_RRII, sc_RRIII, sh_RRIII, sc_RIIRR, sh_RIIRR, sc_RIIIRR, sh_RIIIRR, sc_RIIR, sh_RIIR, sc_RRIIR, sh_RRIIR, sc_RRIIIR, sh_RRIIIR, sc_RRIIIIR, sh_RRIIIIR, sc_RRIR, sh_RRIR, mt_k hM, mt_k hx', hT, mt_K hx', mt_T hx', hIx, e6, e1]
    rintro v h' ⟨rfl, rfl⟩
    simp only [ac_ent, ldI, ldR, stI, stR, inc, cI, cJ, cN, bop, oAdd, oSub, oMul, oAnd, oOr, oXor, oShl, oShr, oUshr, oRem, oDiv, oMx, oMn, oI2l, oLcmp, oDup, oDup2, oDupX1, oPop, bIc, bI0, bNul, getI, getR, putI, putZ, putR, aLen, aldI, aldZ, aldJ, aldR, astI, astZ, astJ, astR, nwO, nwA, gsT, oObj, oCpy, oCln, oCst, rtI, rtZ, rtR, rtV, thr, call, callH, ac_hsel, ac_as, ac_rs, ac_cs, ac_rcv, List.map_cons, List.map_nil, List.length_cons, List.length_nil, List.replicate, List.append_nil, List.cons_append, List.nil_append, List.getElem?_cons_zero, List.getElem?_cons_succ, List.set, Nat.zero_add, Nat.add_zero, Nat.le_refl, Nat.reduceAdd, Nat.reduceSub, Nat.reduceLeDiff, Int.reduceLT, Int.reduceLE, Int.reduceNeg, Int.reduceEq, true_and, and_true, true_or, or_true, not_true_eq_false, not_false_eq_true, false_implies, true_implies, implies_true, reduceIte, and_self, Int.reduceAdd, Int.reduceMul, Int.reduceSub, eq_self, Int.add_zero, Int.zero_add, String.reduceEq, Nat.zero_le, Option.some.injEq, Sum.inl.injEq, Sum.inr.injEq, reduceCtorEq, Int.reduceToNat, Option.toList_some, Option.toList_none, ac_cs, ac_c10, ac_c11, ac_c12, ac_c13, ac_c14, ac_c15, ac_c16, ac_c17, sc_E, sh_E, sc_I, sh_I, sc_II, sh_II, sc_III, sh_III, sc_R, sh_R, sc_RI, sh_RI, sc_RII, sh_RII, sc_RIII, sh_RIII, sc_RIIII, sh_RIIII, sc_RR, sh_RR, sc_RRI, sh_RRI, sc_RRR, sh_RRR, sc_RIR, sh_RIR, sc_RIRI, sh_RIRI, sc_RRII, sh_RRII, sc_RRIII, sh_RRIII, sc_RIIRR, sh_RIIRR, sc_RIIIRR, sh_RIIIRR, sc_RIIR, sh_RIIR, sc_RRIIR, sh_RRIIR, sc_RRIIIR, sh_RRIIIR, sc_RRIIIIR, sh_RRIIIIR, sc_RRIR, sh_RRIR]
    exact ⟨10, by omega, 0, tu T 14 0 0, by omega, by omega, hx', fun k a b => tu_k b, tu_s, fun j hj => by omega, rfl, rfl, rfl, rfl⟩
  | 1, hJ =>
    obtain ⟨i, T', i1, hm, hx, ho, h14, hi, rfl, rfl, rfl, rfl⟩ := hJ
    simp only [spX9_orders, vcX9_orders, mX9_orders, spX9_next, ac_ent, ldI, ldR, stI, stR, inc, cI, cJ, cN, bop, oAdd, oSub, oMul, oAnd, oOr, oXor, oShl, oShr, oUshr, oRem, oDiv, oMx, oMn, oI2l, oLcmp, oDup, oDup2, oDupX1, oPop, bIc, bI0, bNul, getI, getR, putI, putZ, putR, aLen, aldI, aldZ, aldJ, aldR, astI, astZ, astJ, astR, nwO, nwA, gsT, oObj, oCpy, oCln, oCst, rtI, rtZ, rtR, rtV, thr, call, callH, ac_hsel, ac_as, ac_rs, ac_cs, ac_rcv, List.map_cons, List.map_nil, List.length_cons, List.length_nil, List.replicate, List.append_nil, List.cons_append, List.nil_append, List.getElem?_cons_zero, List.getElem?_cons_succ, List.set, Nat.zero_add, Nat.add_zero, Nat.le_refl, Nat.reduceAdd, Nat.reduceSub, Nat.reduceLeDiff, Int.reduceLT, Int.reduceLE, Int.reduceNeg, Int.reduceEq, true_and, and_true, true_or, or_true, not_true_eq_false, not_false_eq_true, false_implies, true_implies, implies_true, reduceIte, and_self, Int.reduceAdd, Int.reduceMul, Int.reduceSub, eq_self, Int.add_zero, Int.zero_add, String.reduceEq, Nat.zero_le, Option.some.injEq, Sum.inl.injEq, Sum.inr.injEq, reduceCtorEq, Int.reduceToNat, Option.toList_some, Option.toList_none, ac_cs, ac_c10, ac_c11, ac_c12, ac_c13, ac_c14, ac_c15, ac_c16, ac_c17, sc_E, sh_E, sc_I, sh_I, sc_II, sh_II, sc_III, sh_III, sc_R, sh_R, sc_RI, sh_RI, sc_RII, sh_RII, sc_RIII, sh_RIII, sc_RIIII, sh_RIIII, sc_RR, sh_RR, sc_RRI, sh_RRI, sc_RRR, sh_RRR, sc_RIR, sh_RIR, sc_RIRI, sh_RIRI, sc_RRII, sh_RRII, sc_RRIII, sh_RRIII, sc_RIIRR, sh_RIIRR, sc_RIIIRR, sh_RIIIRR, sc_RIIR, sh_RIIR, sc_RRIIR, sh_RRIIR, sc_RRIIIR, sh_RRIIIR, sc_RRIIIIR, sh_RRIIIIR, sc_RRIR, sh_RRIR, mt_k hx, mr_13 hx, mk_13 hx, ml_13 hx, mr_14 hx, hT, h14]
    have fin : ore (T 6) (T 1 0) set i = -1 → orN (T 6) (T 1 0) set i := fun e => ⟨i1, Or.inr e, fun j hj => (hi j hj).1⟩
    refine ⟨fun e => ⟨fun e2 => ⟨T', i, hx, ho, h14, fin e, fun j hj => (hi j hj).2, by rw [b01_t e2]⟩, fun e2 => ⟨T', i, hx, ho, h14, fin e, fun j hj => (hi j hj).2, by rw [b01_f e2]⟩⟩, fun e => ?_⟩
    have lt := ore_lt (nd := T 6) (c := T 1 0) (set := set) (n := i) hI1.1 hI1.2 (fun j hj => by
      by_cases q : j = i
      · rw [q]; exact e
      · exact (hi j (by omega)).1)
    have hx2 := mt_f 14 (mt_a 13 hx (by decide) rfl (j := i) (v := ore (T 6) (T 1 0) set i)) rfl (v := (i : Int) + 1)
    have hIx : MI (tu (tu T' 13 i (ore (T 6) (T 1 0) set i)) 14 0 ((i : Int) + 1)) := by
      simp only [MI, tu_k, tu_s, ne_eq, Nat.reduceEqDiff, not_false_eq_true, ho]; exact hI
    have e6 : tu (tu T' 13 i (ore (T 6) (T 1 0) set i)) 14 0 ((i : Int) + 1) 6 = T 6 := by simp only [tu_k, tu_s, ne_eq, Nat.reduceEqDiff, not_false_eq_true, ho]
    have e1 : tu (tu T' 13 i (ore (T 6) (T 1 0) set i)) 14 0 ((i : Int) + 1) 1 = T 1 := by simp only [tu_k, tu_s, ne_eq, Nat.reduceEqDiff, not_false_eq_true, ho]
    have hx3 : MT h (up (up g 10 (g 1013 m 0) i (ore (T 6) (T 1 0) set i)) 1014 m 0 ((i : Int) + 1)) m (tu (tu T' 13 i (ore (T 6) (T 1 0) set i)) 14 0 ((i : Int) + 1)) := hx2
    refine ⟨⟨by omega, by omega⟩, ?_⟩
    simp only [up_k, ast_k, up_kf, ast_kf, ne_eq, Nat.reduceEqDiff, not_false_eq_true, h14, mr_14 hx, ac_ent, ldI, ldR, stI, stR, inc, cI, cJ, cN, bop, oAdd, oSub, oMul, oAnd, oOr, oXor, oShl, oShr, oUshr, oRem, oDiv, oMx, oMn, oI2l, oLcmp, oDup, oDup2, oDupX1, oPop, bIc, bI0, bNul, getI, getR, putI, putZ, putR, aLen, aldI, aldZ, aldJ, aldR, astI, astZ, astJ, astR, nwO, nwA, gsT, oObj, oCpy, oCln, oCst, rtI, rtZ, rtR, rtV, thr, call, callH, ac_hsel, ac_as, ac_rs, ac_cs, ac_rcv, List.map_cons, List.map_nil, List.length_cons, List.length_nil, List.replicate, List.append_nil, List.cons_append, List.nil_append, List.getElem?_cons_zero, List.getElem?_cons_succ, List.set, Nat.zero_add, Nat.add_zero, Nat.le_refl, Nat.reduceAdd, Nat.reduceSub, Nat.reduceLeDiff, Int.reduceLT, Int.reduceLE, Int.reduceNeg, Int.reduceEq, true_and, and_true, true_or, or_true, not_true_eq_false, not_false_eq_true, false_implies, true_implies, implies_true, reduceIte, and_self, Int.reduceAdd, Int.reduceMul, Int.reduceSub, eq_self, Int.add_zero, Int.zero_add, String.reduceEq, Nat.zero_le, Option.some.injEq, Sum.inl.injEq, Sum.inr.injEq, reduceCtorEq, Int.reduceToNat, Option.toList_some, Option.toList_none, ac_cs, ac_c10, ac_c11, ac_c12, ac_c13, ac_c14, ac_c15, ac_c16, ac_c17, sc_E, sh_E, sc_I, sh_I, sc_II, sh_II, sc_III, sh_III, sc_R, sh_R, sc_RI, sh_RI, sc_RII, sh_RII, sc_RIII, sh_RIII, sc_RIIII, sh_RIIII, sc_RR, sh_RR, sc_RRI, sh_RRI, sc_RRR, sh_RRR, sc_RIR, sh_RIR, sc_RIRI, sh_RIRI, sc_RRII, sh_RRII, sc_RRIII, sh_RRIII, sc_RIIRR, sh_RIIRR, sc_RIIIRR, sh_RIIIRR, sc_RIIR, sh_RIIR, sc_RRIIR, sh_RRIIR, sc_RRIIIR, sh_RRIIIR, sc_RRIIIIR, sh_RRIIIIR, sc_RRIR, sh_RRIR]
    simp (disch := omega) only [wr_of]
    simp only [mt_k hx, mt_k hx3, mt_K hx3, mt_T hx3, hIx, e6, e1, ac_ent, ldI, ldR, stI, stR, inc, cI, cJ, cN, bop, oAdd, oSub, oMul, oAnd, oOr, oXor, oShl, oShr, oUshr, oRem, oDiv, oMx, oMn, oI2l, oLcmp, oDup, oDup2, oDupX1, oPop, bIc, bI0, bNul, getI, getR, putI, putZ, putR, aLen, aldI, aldZ, aldJ, aldR, astI, astZ, astJ, astR, nwO, nwA, gsT, oObj, oCpy, oCln, oCst, rtI, rtZ, rtR, rtV, thr, call, callH, ac_hsel, ac_as, ac_rs, ac_cs, ac_rcv, List.map_cons, List.map_nil, List.length_cons, List.length_nil, List.replicate, List.append_nil, List.cons_append, List.nil_append, List.getElem?_cons_zero, List.getElem?_cons_succ, List.set, Nat.zero_add, Nat.add_zero, Nat.le_refl, Nat.reduceAdd, Nat.reduceSub, Nat.reduceLeDiff, Int.reduceLT, Int.reduceLE, Int.reduceNeg, Int.reduceEq, true_and, and_true, true_or, or_true, not_true_eq_false, not_false_eq_true, false_implies, true_implies, implies_true, reduceIte, and_self, Int.reduceAdd, Int.reduceMul, Int.reduceSub, eq_self, Int.add_zero, Int.zero_add, String.reduceEq, Nat.zero_le, Option.some.injEq, Sum.inl.injEq, Sum.inr.injEq, reduceCtorEq, Int.reduceToNat, Option.toList_some, Option.toList_none, ac_cs, ac_c10, ac_c11, ac_c12, ac_c13, ac_c14, ac_c15, ac_c16, ac_c17, sc_E, sh_E, sc_I, sh_I, sc_II, sh_II, sc_III, sh_III, sc_R, sh_R, sc_RI, sh_RI, sc_RII, sh_RII, sc_RIII, sh_RIII, sc_RIIII, sh_RIIII, sc_RR, sh_RR, sc_RRI, sh_RRI, sc_RRR, sh_RRR, sc_RIR, sh_RIR, sc_RIRI, sh_RIRI, sc_RRII, sh_RRII, sc_RRIII, sh_RRIII, sc_RIIRR, sh_RIIRR, sc_RIIIRR, sh_RIIIRR, sc_RIIR, sh_RIIR, sc_RRIIR, sh_RRIIR, sc_RRIIIR, sh_RRIIIR, sc_RRIIIIR, sh_RRIIIIR, sc_RRIR, sh_RRIR]
    rintro v h' ⟨rfl, rfl⟩
    simp only [ac_ent, ldI, ldR, stI, stR, inc, cI, cJ, cN, bop, oAdd, oSub, oMul, oAnd, oOr, oXor, oShl, oShr, oUshr, oRem, oDiv, oMx, oMn, oI2l, oLcmp, oDup, oDup2, oDupX1, oPop, bIc, bI0, bNul, getI, getR, putI, putZ, putR, aLen, aldI, aldZ, aldJ, aldR, astI, astZ, astJ, astR, nwO, nwA, gsT, oObj, oCpy, oCln, oCst, rtI, rtZ, rtR, rtV, thr, call, callH, ac_hsel, ac_as, ac_rs, ac_cs, ac_rcv, List.map_cons, List.map_nil, List.length_cons, List.length_nil, List.replicate, List.append_nil, List.cons_append, List.nil_append, List.getElem?_cons_zero, List.getElem?_cons_succ, List.set, Nat.zero_add, Nat.add_zero, Nat.le_refl, Nat.reduceAdd, Nat.reduceSub, Nat.reduceLeDiff, Int.reduceLT, Int.reduceLE, Int.reduceNeg, Int.reduceEq, true_and, and_true, true_or, or_true, not_true_eq_false, not_false_eq_true, false_implies, true_implies, implies_true, reduceIte, and_self, Int.reduceAdd, Int.reduceMul, Int.reduceSub, eq_self, Int.add_zero, Int.zero_add, String.reduceEq, Nat.zero_le, Option.some.injEq, Sum.inl.injEq, Sum.inr.injEq, reduceCtorEq, Int.reduceToNat, Option.toList_some, Option.toList_none, ac_cs, ac_c10, ac_c11, ac_c12, ac_c13, ac_c14, ac_c15, ac_c16, ac_c17, sc_E, sh_E, sc_I, sh_I, sc_II, sh_II, sc_III, sh_III, sc_R, sh_R, sc_RI, sh_RI, sc_RII, sh_RII, sc_RIII, sh_RIII, sc_RIIII, sh_RIIII, sc_RR, sh_RR, sc_RRI, sh_RRI, sc_RRR, sh_RRR, sc_RIR, sh_RIR, sc_RIRI, sh_RIRI, sc_RRII, sh_RRII, sc_RRIII, sh_RRIII, sc_RIIRR, sh_RIIRR, sc_RIIIRR, sh_RIIIRR, sc_RIIR, sh_RIIR, sc_RRIIR, sh_RRIIR, sc_RRIIIR, sh_RRIIIR, sc_RRIIIIR, sh_RRIIIIR, sc_RRIR, sh_RRIR]
    refine ⟨9 - i, by omega, i + 1, _, by omega, by omega, hx3, fun k a b => by rw [tu_k b, tu_k a, ho k a b], by rw [tu_s]; omega, fun j hj => ?_, rfl, rfl, rfl, rfl⟩
    by_cases q : j = i
    · subst q
      refine ⟨e, ?_⟩
      rw [tu_k (by decide), tu_s]
    · refine ⟨(hi j (by omega)).1, ?_⟩
      rw [tu_k (by decide), tu_n (by omega)]
      exact (hi j (by omega)).2
  | j + 2, hJ => exact hJ.elim
