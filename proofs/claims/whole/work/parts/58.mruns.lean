/-! ===== the model: ranks ===== -/
def spX9_isAhead : ac_Sp := sc_RII (fun m a b h => MK h m ∧ 0 ≤ a ∧ a < 60 ∧ 0 ≤ b ∧ b < 60) (fun m a b h v h' => h' = h ∧ v = some (.inl (b01 (ahd (tv h m 29 a) (tv h m 28 a) a (tv h m 29 b) (tv h m 28 b) b)))) (fun _ _ _ _ _ _ => False)
set_option maxRecDepth 100000 in
set_option maxHeartbeats 4000000 in
theorem mtX9_isAhead {G : ac_G} {l : Launch} : ac_Met G l yX9_isAhead mX9_isAhead 0 0 0 0 spX9_isAhead := by
  refine ac_meth1 (pcs := pcX9_isAhead) (B := fun P X J j => vcX9_isAhead P X J j) (by decide) rfl rfl rfl (fun P X J hJ j => sdX9_isAhead P X J hJ j) (hp_RII (by decide)) fun As h hp => ?_
  obtain ⟨m, a, b, rfl, hp⟩ := sh_RII_inv hp
  simp only [spX9_isAhead, vcX9_isAhead, mX9_isAhead, sc_RII, sh_RII, ac_ent, ldI, ldR, stI, stR, inc, cI, cJ, cN, bop, oAdd, oSub, oMul, oAnd, oOr, oXor, oShl, oShr, oUshr, oRem, oDiv, oMx, oMn, oI2l, oLcmp, oDup, oDup2, oDupX1, oPop, bIc, bI0, bNul, getI, getR, putI, putZ, putR, aLen, aldI, aldZ, aldJ, aldR, astI, astZ, astJ, astR, nwO, nwA, gsT, oObj, oCpy, oCln, oCst, rtI, rtZ, rtR, rtV, thr, call, callH, ac_hsel, ac_as, ac_rs, ac_cs, ac_rcv, List.map_cons, List.map_nil, List.length_cons, List.length_nil, List.replicate, List.append_nil, List.cons_append, List.nil_append, List.getElem?_cons_zero, List.getElem?_cons_succ, List.set, Nat.zero_add, Nat.add_zero, Nat.le_refl, Nat.reduceAdd, Nat.reduceSub, Nat.reduceLeDiff, Int.reduceLT, Int.reduceLE, Int.reduceNeg, Int.reduceEq, true_and, and_true, true_or, or_true, not_true_eq_false, not_false_eq_true, false_implies, true_implies, implies_true, reduceIte, and_self, Int.reduceAdd, Int.reduceMul, Int.reduceSub, eq_self, Int.add_zero, Int.zero_add, String.reduceEq, Nat.zero_le, Option.some.injEq, Sum.inl.injEq, Sum.inr.injEq, reduceCtorEq, Int.reduceToNat, Option.toList_some, Option.toList_none, ac_cs, ac_c10, ac_c11, ac_c12, ac_c13, ac_c14, ac_c15, ac_c16, ac_c17, sc_E, sh_E, sc_I, sh_I, sc_II, sh_II, sc_III, sh_III, sc_R, sh_R, sc_RI, sh_RI, sc_RII, sh_RII, sc_RIII, sh_RIII, sc_RIIII, sh_RIIII, sc_RR, sh_RR, sc_RRI, sh_RRI, sc_RRR, sh_RRR, sc_RIR, sh_RIR, sc_RIRI, sh_RIRI, sc_RRII, sh_RRII, sc_RRIII, sh_RRIII, sc_RIIRR, sh_RIIRR, sc_RIIIRR, sh_RIIIRR, sc_RIIR, sh_RIIR, sc_RRIIR, sh_RRIIR, sc_RRIIIR, sh_RRIIIR, sc_RRIIIIR, sh_RRIIIIR, sc_RRIR, sh_RRIR]
  obtain ⟨hK, a0, a1, b0, b1⟩ := hp
  have hM := mt_0 hK
  obtain ⟨T, hT⟩ : ∃ T, tv h m = T := ⟨_, rfl⟩
  rw [hT] at hM
  simp only [mt_k hM, mr_28 hM, mk_28 hM, ml_28 hM, mr_29 hM, mk_29 hM, ml_29 hM, hT, a0, a1, b0, b1, ahd, ac_ent, ldI, ldR, stI, stR, inc, cI, cJ, cN, bop, oAdd, oSub, oMul, oAnd, oOr, oXor, oShl, oShr, oUshr, oRem, oDiv, oMx, oMn, oI2l, oLcmp, oDup, oDup2, oDupX1, oPop, bIc, bI0, bNul, getI, getR, putI, putZ, putR, aLen, aldI, aldZ, aldJ, aldR, astI, astZ, astJ, astR, nwO, nwA, gsT, oObj, oCpy, oCln, oCst, rtI, rtZ, rtR, rtV, thr, call, callH, ac_hsel, ac_as, ac_rs, ac_cs, ac_rcv, List.map_cons, List.map_nil, List.length_cons, List.length_nil, List.replicate, List.append_nil, List.cons_append, List.nil_append, List.getElem?_cons_zero, List.getElem?_cons_succ, List.set, Nat.zero_add, Nat.add_zero, Nat.le_refl, Nat.reduceAdd, Nat.reduceSub, Nat.reduceLeDiff, Int.reduceLT, Int.reduceLE, Int.reduceNeg, Int.reduceEq, true_and, and_true, true_or, or_true, not_true_eq_false, not_false_eq_true, false_implies, true_implies, implies_true, reduceIte, and_self, Int.reduceAdd, Int.reduceMul, Int.reduceSub, eq_self, Int.add_zero, Int.zero_add, String.reduceEq, Nat.zero_le, Option.some.injEq, Sum.inl.injEq, Sum.inr.injEq, reduceCtorEq, Int.reduceToNat, Option.toList_some, Option.toList_none, ac_cs, ac_c10, ac_c11, ac_c12, ac_c13, ac_c14, ac_c15, ac_c16, ac_c17, sc_E, sh_E, sc_I, sh_I, sc_II, sh_II, sc_III, sh_III, sc_R, sh_R, sc_RI, sh_RI, sc_RII, sh_RII, sc_RIII, sh_RIII, sc_RIIII, sh_RIIII, sc_RR, sh_RR, sc_RRI, sh_RRI, sc_RRR, sh_RRR, sc_RIR, sh_RIR, sc_RIRI, sh_RIRI, sc_RRII, sh_RRII, sc_RRIII, sh_RRIII, sc_RIIRR, sh_RIIRR, sc_RIIIRR, sh_RIIIRR, sc_RIIR, sh_RIIR, sc_RRIIR, sh_RRIIR, sc_RRIIIR, sh_RRIIIR, sc_RRIIIIR, sh_RRIIIIR, sc_RRIR, sh_RRIR]
  refine ⟨fun e => ⟨fun e2 => ⟨fun e3 => ?_, fun e3 => ?_⟩, fun e2 => ⟨fun e3 => ?_, fun e3 => ?_⟩⟩, fun e => ⟨fun e2 => ?_, fun e2 => ?_⟩⟩
  · rw [b01_f]; rw [if_pos e, if_pos e2]; omega
  · rw [b01_t]; rw [if_pos e, if_pos e2]; omega
  · rw [b01_f]; rw [if_pos e, if_neg e2]; omega
  · rw [b01_t]; rw [if_pos e, if_neg e2]; omega
  · rw [b01_f]; rw [if_neg e]; omega
  · rw [b01_t]; rw [if_neg e]; omega
abbrev ahT (T : mT) (r i : Int) : Prop := (T 31 i = -1 ∧ T 30 i = T 30 r) ∧ ahd (T 29 i) (T 28 i) i (T 29 r) (T 28 r) r
def cnT (T : mT) (r : Int) : Nat → Int
  | 0 => 0
  | n + 1 => cnT T r n + (if ahT T r n then 1 else 0)
theorem cnT_r (T : mT) (r : Int) : ∀ n, 0 ≤ cnT T r n ∧ cnT T r n ≤ n
  | 0 => by simp [cnT]
  | n + 1 => by have := cnT_r T r n; rw [cnT]; split <;> omega
def rkT (T : mT) (r : Int) : Int := if T 31 r = -1 then cnT T r (T 25 0).toNat else -1
def spX9_rankOf : ac_Sp := sc_RI (fun m r h => MK h m ∧ MI (tv h m) ∧ 0 ≤ r ∧ r < tv h m 25 0) (fun m r h v h' => h' = h ∧ v = some (.inl (rkT (tv h m) r))) (fun _ _ _ _ _ => False)
def ivX9_rankOf (m r : Int) (h : ac_H) (T : mT) : Nat → Nat → ac_S := fun j mm => match j with
  | 0 => fun L S g k z => mm = 1000 ∧ ent0 [some (.inr (.inl m)), some (.inl r), none, none] h L S g k z
  | 1 => fun L S g k z => ∃ o : Nat, (o : Int) ≤ T 25 0 ∧ mm + o = 60 ∧ L = [some (.inr (.inl m)), some (.inl r), some (.inl (cnT T r o)), some (.inl o)] ∧ S = [] ∧ g = h ∧ k = 0 ∧ z = 0
  | _ => fun _ _ _ _ _ => False
set_option maxRecDepth 100000 in
set_option maxHeartbeats 4000000 in
theorem mtX9_rankOf {G : ac_G} {l : Launch} : ac_Met G l yX9_rankOf mX9_rankOf 1 22 0 0 spX9_rankOf := by
  refine ac_meth (pcs := pcX9_rankOf) (B := fun P X J j => vcX9_rankOf spX9_isAhead P X J j) (by decide) rfl rfl rfl (fun P X J hJ j => sdX9_rankOf mtX9_isAhead P X J hJ j) (hp_RI (by decide)) fun As h hp => ?_
  obtain ⟨m, r, rfl, hp⟩ := sh_RI_inv hp
  obtain ⟨hK, hI, r0, r1⟩ := hp
  have hM := mt_0 hK
  obtain ⟨T, hT⟩ : ∃ T, tv h m = T := ⟨_, rfl⟩
  rw [hT] at hM hI r1
  have hI5 := hI.2.2.2.2.1
  refine ⟨ivX9_rankOf m r h T, 1000, ⟨rfl, rfl, rfl, rfl, rfl, rfl⟩, fun j mm L S g k z hJ => ?_⟩
  match j, hJ with
  | 0, hJ =>
    obtain ⟨hm, rfl, rfl, rfl, rfl, rfl⟩ := hJ
    simp only [spX9_rankOf, vcX9_rankOf, mX9_rankOf, spX9_isAhead, ac_ent, ldI, ldR, stI, stR, inc, cI, cJ, cN, bop, oAdd, oSub, oMul, oAnd, oOr, oXor, oShl, oShr, oUshr, oRem, oDiv, oMx, oMn, oI2l, oLcmp, oDup, oDup2, oDupX1, oPop, bIc, bI0, bNul, getI, getR, putI, putZ, putR, aLen, aldI, aldZ, aldJ, aldR, astI, astZ, astJ, astR, nwO, nwA, gsT, oObj, oCpy, oCln, oCst, rtI, rtZ, rtR, rtV, thr, call, callH, ac_hsel, ac_as, ac_rs, ac_cs, ac_rcv, List.map_cons, List.map_nil, List.length_cons, List.length_nil, List.replicate, List.append_nil, List.cons_append, List.nil_append, List.getElem?_cons_zero, List.getElem?_cons_succ, List.set, Nat.zero_add, Nat.add_zero, Nat.le_refl, Nat.reduceAdd, Nat.reduceSub, Nat.reduceLeDiff, Int.reduceLT, Int.reduceLE, Int.reduceNeg, Int.reduceEq, true_and, and_true, true_or, or_true, not_true_eq_false, not_false_eq_true, false_implies, true_implies, implies_true, reduceIte, and_self, Int.reduceAdd, Int.reduceMul, Int.reduceSub, eq_self, Int.add_zero, Int.zero_add, String.reduceEq, Nat.zero_le, Option.some.injEq, Sum.inl.injEq, Sum.inr.injEq, reduceCtorEq, Int.reduceToNat, Option.toList_some, Option.toList_none, ac_cs, ac_c10, ac_c11, ac_c12, ac_c13, ac_c14, ac_c15, ac_c16, ac_c17, sc_E, sh_E, sc_I, sh_I, sc_II, sh_II, sc_III, sh_III, sc_R, sh_R, sc_RI, sh_RI, sc_RII, sh_RII, sc_RIII, sh_RIII, sc_RIIII, sh_RIIII, sc_RR, sh_RR, sc_RRI, sh_RRI, sc_RRR, sh_RRR, sc_RIR, sh_RIR, sc_RIRI, sh_RIRI, sc_RRII, sh_RRII, sc_RRIII, sh_RRIII, sc_RIIRR, sh_RIIRR, sc_RIIIRR, sh_RIIIRR, sc_RIIR, sh_RIIR, sc_RRIIR, sh_RRIIR, sc_RRIIIR, sh_RRIIIR, sc_RRIIIIR, sh_RRIIIIR, sc_RRIR, sh_RRIR]
    exact ⟨60, by omega, 0, by omega, by omega, rfl, rfl, rfl, rfl, rfl⟩
  | 1, hJ =>
    obtain ⟨o, o1, hm, rfl, rfl, rfl, rfl, rfl⟩ := hJ
    have cr := cnT_r T r o
    have nxt : o < T 25 0 → ∀ d : Int, d = (if ahT T r o then 1 else 0) → ∃ m', m' < mm ∧ ivX9_rankOf m r g T 1 m' [some (.inr (.inl m)), some (.inl r), some (.inl (wr (cnT T r o + d))), some (.inl (wr ((o : Int) + 1)))] [] g 0 0 := by
      intro q d hd
      refine ⟨mm - 1, by omega, o + 1, by omega, by omega, ?_, rfl, rfl, rfl, rfl⟩
      rw [cnT, ← hd, wr_of (by split at hd <;> omega) (by split at hd <;> omega), wr_of (by omega) (by omega)]
      rfl
    simp only [spX9_rankOf, vcX9_rankOf, mX9_rankOf, spX9_isAhead, ac_ent, ldI, ldR, stI, stR, inc, cI, cJ, cN, bop, oAdd, oSub, oMul, oAnd, oOr, oXor, oShl, oShr, oUshr, oRem, oDiv, oMx, oMn, oI2l, oLcmp, oDup, oDup2, oDupX1, oPop, bIc, bI0, bNul, getI, getR, putI, putZ, putR, aLen, aldI, aldZ, aldJ, aldR, astI, astZ, astJ, astR, nwO, nwA, gsT, oObj, oCpy, oCln, oCst, rtI, rtZ, rtR, rtV, thr, call, callH, ac_hsel, ac_as, ac_rs, ac_cs, ac_rcv, List.map_cons, List.map_nil, List.length_cons, List.length_nil, List.replicate, List.append_nil, List.cons_append, List.nil_append, List.getElem?_cons_zero, List.getElem?_cons_succ, List.set, Nat.zero_add, Nat.add_zero, Nat.le_refl, Nat.reduceAdd, Nat.reduceSub, Nat.reduceLeDiff, Int.reduceLT, Int.reduceLE, Int.reduceNeg, Int.reduceEq, true_and, and_true, true_or, or_true, not_true_eq_false, not_false_eq_true, false_implies, true_implies, implies_true, reduceIte, and_self, Int.reduceAdd, Int.reduceMul, Int.reduceSub, eq_self, Int.add_zero, Int.zero_add, String.reduceEq, Nat.zero_le, Option.some.injEq, Sum.inl.injEq, Sum.inr.injEq, reduceCtorEq, Int.reduceToNat, Option.toList_some, Option.toList_none, ac_cs, ac_c10, ac_c11, ac_c12, ac_c13, ac_c14, ac_c15, ac_c16, ac_c17, sc_E, sh_E, sc_I, sh_I, sc_II, sh_II, sc_III, sh_III, sc_R, sh_R, sc_RI, sh_RI, sc_RII, sh_RII, sc_RIII, sh_RIII, sc_RIIII, sh_RIIII, sc_RR, sh_RR, sc_RRI, sh_RRI, sc_RRR, sh_RRR, sc_RIR, sh_RIR, sc_RIRI, sh_RIRI, sc_RRII, sh_RRII, sc_RRIII, sh_RRIII, sc_RIIRR, sh_RIIRR, sc_RIIIRR, sh_RIIIRR, sc_RIIR, sh_RIIR, sc_RRIIR, sh_RRIIR, sc_RRIIIR, sh_RRIIIR, sc_RRIIIIR, sh_RRIIIIR, sc_RRIR, sh_RRIR, mt_k hM, mr_25 hM, mr_30 hM, mk_30 hM, ml_30 hM, mr_31 hM, mk_31 hM, ml_31 hM, hT, mt_K hM, Int.add_zero]
    refine ⟨fun q => ⟨⟨r0, by omega⟩, fun e => ?_, fun e => ?_⟩, fun q => ⟨⟨by omega, by omega⟩, fun e => ⟨⟨by omega, by omega⟩, ⟨r0, by omega⟩, fun e2 => ⟨⟨by omega, by omega, r0, by omega⟩, ?_⟩, fun e2 => ?_⟩, fun e => ?_⟩⟩
    · have : o = (T 25 0).toNat := by omega
      rw [rkT, if_pos e, ← this]
    · rw [rkT, if_neg e]
    · rintro v h' ⟨rfl, rfl⟩
      simp only [b01_0, ac_ent, ldI, ldR, stI, stR, inc, cI, cJ, cN, bop, oAdd, oSub, oMul, oAnd, oOr, oXor, oShl, oShr, oUshr, oRem, oDiv, oMx, oMn, oI2l, oLcmp, oDup, oDup2, oDupX1, oPop, bIc, bI0, bNul, getI, getR, putI, putZ, putR, aLen, aldI, aldZ, aldJ, aldR, astI, astZ, astJ, astR, nwO, nwA, gsT, oObj, oCpy, oCln, oCst, rtI, rtZ, rtR, rtV, thr, call, callH, ac_hsel, ac_as, ac_rs, ac_cs, ac_rcv, List.map_cons, List.map_nil, List.length_cons, List.length_nil, List.replicate, List.append_nil, List.cons_append, List.nil_append, List.getElem?_cons_zero, List.getElem?_cons_succ, List.set, Nat.zero_add, Nat.add_zero, Nat.le_refl, Nat.reduceAdd, Nat.reduceSub, Nat.reduceLeDiff, Int.reduceLT, Int.reduceLE, Int.reduceNeg, Int.reduceEq, true_and, and_true, true_or, or_true, not_true_eq_false, not_false_eq_true, false_implies, true_implies, implies_true, reduceIte, and_self, Int.reduceAdd, Int.reduceMul, Int.reduceSub, eq_self, Int.add_zero, Int.zero_add, String.reduceEq, Nat.zero_le, Option.some.injEq, Sum.inl.injEq, Sum.inr.injEq, reduceCtorEq, Int.reduceToNat, Option.toList_some, Option.toList_none, ac_cs, ac_c10, ac_c11, ac_c12, ac_c13, ac_c14, ac_c15, ac_c16, ac_c17, sc_E, sh_E, sc_I, sh_I, sc_II, sh_II, sc_III, sh_III, sc_R, sh_R, sc_RI, sh_RI, sc_RII, sh_RII, sc_RIII, sh_RIII, sc_RIIII, sh_RIIII, sc_RR, sh_RR, sc_RRI, sh_RRI, sc_RRR, sh_RRR, sc_RIR, sh_RIR, sc_RIRI, sh_RIRI, sc_RRII, sh_RRII, sc_RRIII, sh_RRIII, sc_RIIRR, sh_RIIRR, sc_RIIIRR, sh_RIIIRR, sc_RIIR, sh_RIIR, sc_RRIIR, sh_RRIIR, sc_RRIIIR, sh_RRIIIR, sc_RRIIIIR, sh_RRIIIIR, sc_RRIR, sh_RRIR]
      refine ⟨fun e3 => ?_, fun e3 => ?_⟩
      · have := nxt (by omega) 0 (by rw [if_neg (fun w => e3 w.2)])
        rw [Int.add_zero] at this
        exact this
      · exact nxt (by omega) 1 (by rw [if_pos ⟨⟨e, e2⟩, Decidable.not_not.mp e3⟩])
    · have := nxt (by omega) 0 (by rw [if_neg (fun w => e2 w.1.2)])
      rw [Int.add_zero] at this
      exact this
    · have := nxt (by omega) 0 (by rw [if_neg (fun w => e w.1.1)])
      rw [Int.add_zero] at this
      exact this
  | j + 2, hJ => exact hJ.elim
