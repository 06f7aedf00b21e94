/-! ===== the model: ranks ===== -/
def spX9_isAhead : ac_Sp := sc_RII (fun m a b h => MK h m ∧ 0 ≤ a ∧ a < 60 ∧ 0 ≤ b ∧ b < 60) (fun m a b h v h' => h' = h ∧ v = some (.inl (b01 (ahd (tv h m 29 a) (tv h m 28 a) a (tv h m 29 b) (tv h m 28 b) b)))) (fun _ _ _ _ _ _ => False)
set_option maxRecDepth 100000 in
set_option maxHeartbeats 4000000 in
theorem mtX9_isAhead {G : ac_G} {l : Launch} : ac_Met G l yX9_isAhead mX9_isAhead 0 0 0 0 spX9_isAhead := by
  refine ac_meth1 (pcs := pcX9_isAhead) (B := fun P X J j => vcX9_isAhead P X J j) (by decide) rfl rfl rfl (fun P X J hJ j => sdX9_isAhead P X J hJ j) (hp_RII (by decide)) fun As h hp => ?_
  obtain ⟨m, a, b, rfl, hp⟩ := sh_RII_inv hp
  simp only [spX9_isAhead, vcX9_isAhead, mX9_isAhead, sc_RII, sh_RII, ac_ent, ldI, ldR, stI, stR, inc, cI, cJ, cN, bop, oAdd, oSub, oMul, oAnd, oOr, oXor, oShl, oShr, oUshr, oRem, oDiv, oMx, oMn, oI2l, oLcmp, oDup, oDup2, oDupX1, oPop, bIc, bI0, bNul, getI, getR, putI, putZ, putR, aLen, aldI, aldZ, aldJ, aldR, astI, astZ, astJ, astR, nwO, nwA, gsT, oObj, oCpy, oCln, oCst, rtI, rtZ, rtR, rtV, thr, call, callH, ac_hsel, ac_as, ac_rs, ac_cs, ac_rcv, List.map_cons, List.map_nil, List.length_cons, List.length_nil, List.replicate, List.append_nil, List.cons_append, List.nil_append, List.getElem?_cons_zero, List.getElem?_cons_succ, List.set, Nat.zero_add, Nat.add_zero, Nat.le_refl, Nat.reduceAdd, Nat.reduceSub, Nat.reduceLeDiff, Int.reduceLT, Int.reduceLE, Int.reduceNeg, Int.reduceEq, true_and, and_true, true_or, or_true, not_true_eq_false, not_false_eq_true, false_implies, true_implies, implies_true, reduceIte, and_self, Int.reduceAdd, Int.reduceMul, Int.reduceSub, eq_self, Int.add_zero, Int.zero_add, String.reduceEq, Nat.zero_le, Option.some.injEq, Sum.inl.injEq, Sum.inr.injEq, reduceCtorEq, Int.reduceToNat, Option.toList_some, Option.toList_none, ac_cs, ac_c10, ac_c11, ac_c12, ac_c13, ac_c14, ac_c15, ac_c16, ac_c17, sc_E, sh_E, sc_I, sh_I, sc_II, sh_II, sc_III, sh_III, sc_R, sh_R, sc_RI, sh_RI, sc_RII, sh_RII, sc_RIII, sh_RIII, sc_RIIII, sh_RIIII, sc_RR, sh_RR, sc_RRI, sh_RRI, sc_RRR, sh_RRR, sc_RIR, sh_RIR, sc_RIRI, sh_RIRI, sc_RRII, sh_RRII, sc_RRIII, sh_RRIII, sc_RIIRR, sh_RIIRR, sc_RIIIRR, sh_RIIIRR, sc_RIIR, sh_RIIR, sc_RRIIR, sh_RRIIR, sc_RRIIIR, sh_RRIIIR, sc_RRIIIIR, sh_RRIIIIR, sc_RRIR, sh_RRIR]
  obtain ⟨hK, a0, a1, b0, b1⟩ := hp
  have hM := mt_0 hK
  obtain ⟨T, hT⟩ : ∃ T, tv h m = T := ⟨_, rfl⟩
  rw [hT] at hM
  simp only [mt_k hM, mr_28 hM, mk_28 hM, ml_28 hM, mr_29 hM, mk_29 hM, ml_29 hM, hT, a0, a1, b0, b1, ahd, ac_ent, ldI, ldR, stI, stR, inc, cI, cJ, cN, bop, oAdd, oSub, oMul, oAnd, oOr, oXor, oShl, oShr, oUshr, oRem, oDiv, oMx, oMn, oI2l, oLcmp, oDup, oDup2, oDupX1, oPop, bIc, bI0, bNul, getI, getR, putI, putZ, putR, aLen, aldI, aldZ, aldJ, aldR, astI, astZ, astJ, astR, nwO, nwA, gsT, oObj, oCpy, oCln, oCst, rtI, rtZ, rtR, rtV, thr, call, callH, ac_hsel, ac_as, ac_rs, ac_cs, ac_rcv, List.map_cons, List.map_nil, List.length_cons, List.length_nil, List.replicate, List.append_nil, List.cons_append, List.nil_append, List.getElem?_cons_zero, List.getElem?_cons_succ, List.set, Nat.zero_add, Nat.add_zero, Nat.le_refl, Nat.reduceAdd, Nat.reduceSub, Nat.reduceLeDiff, Int.reduceLT, Int.reduceLE, Int.reduceNeg, Int.reduceEq, true_and, and_true, true_or, or_true, not_true_eq_false, not_false_eq_true, false_implies, true_implies, implies_true, reduceIte, and_self, Int.reduceAdd, Int.reduceMul, Int.reduceSub, eq_self, Int.add_zero, Int.zero_add, String.reduceEq, Nat.zero_le, Option.some.injEq, Sum.inl.injEq, Sum.inr.injEq, reduceCtorEq, Int.reduceToNat, Option.toList_some, Option.toList_none, ac_cs, ac_c10, ac_c11, ac_c12, ac_c13, ac_c14, ac_c15, ac_c16, ac_c17, sc_E, sh_E, sc_I, sh_I, sc_II, sh_II, sc_III, sh_III, sc_R, sh_R, sc_RI, sh_RI, sc_RII, sh_RII, sc_RIII, sh_RIII, sc_RIIII, sh_RIIII, sc_RR, sh_RR, sc_RRI, sh_RRI, sc_RRR, sh_RRR, sc_RIR, sh_RIR, sc_RIRI, sh_RIRI, sc_RRII, sh_RRII, sc_RRIII, sh_RRIII, sc_RIIRR, sh_RIIRR, sc_RIIIRR, sh_RIIIRR, sc_RIIR, sh_RIIR, sc_RRIIR, sh_RRIIR, sc_RRIIIR, sh_RRIIIR, sc_RRIIIIR, sh_RRIIIIR, sc_RRIR, sh_RRIR]
  refine ⟨fun e => ⟨fun e2 => ⟨fun e3 => ?_, fun e3 => ?_⟩, fun e2 => ⟨fun e3 => ?_, fun e3 => ?_⟩⟩, fun e => ⟨fun e2 => ?_, fun e2 => ?_⟩⟩
  · rw [b01_f]; rw [if_pos e, if_pos e2]; omega
  · rw [b01_t]; rw [if_pos e, if_pos e2]; omega
  · rw [b01_f]; rw [if_pos e, if_neg e2]; omega
  · rw [b01_t]; rw [if_pos e, if_neg e2]; omega
  · rw [b01_f]; rw [if_neg e]; omega
  · rw [b01_t]; rw [if_neg e]; omega
abbrev ahT (T : mT) (r i : Int) : Prop := (T 31 i = -1 ∧ T 30 i = T 30 r) ∧ ahd (T 29 i) (T 28 i) i (T 29 r) (T 28 r) r
def cnT (T : mT) (r : Int) : Nat → Int
  | 0 => 0
  | n + 1 => cnT T r n + (if ahT T r n then 1 else 0)
theorem cnT_r (T : mT) (r : Int) : ∀ n, 0 ≤ cnT T r n ∧ cnT T r n ≤ n
  | 0 => by simp [cnT]
  | n + 1 => by have := cnT_r T r n; rw [cnT]; split <;> omega
def rkT (T : mT) (r : Int) : Int := if T 31 r = -1 then cnT T r (T 25 0).toNat else -1
def spX9_rankOf : ac_Sp := sc_RI (fun m r h => MK h m ∧ MI (tv h m) ∧ 0 ≤ r ∧ r < tv h m 25 0) (fun m r h v h' => h' = h ∧ v = some (.inl (rkT (tv h m) r))) (fun _ _ _ _ _ => False)
def ivX9_rankOf (m r : Int) (h : ac_H) (T : mT) : Nat → Nat → ac_S := fun j mm => match j with
  | 0 => fun L S g k z => mm = 1000 ∧ ent0 [some (.inr (.inl m)), some (.inl r), none, none] h L S g k z
  | 1 => fun L S g k z => ∃ o : Nat, (o : Int) ≤ T 25 0 ∧ mm + o = 60 ∧ L = [some (.inr (.inl m)), some (.inl r), some (.inl (cnT T r o)), some (.inl o)] ∧ S = [] ∧ g = h ∧ k = 0 ∧ z = 0
  | _ => fun _ _ _ _ _ => False
set_option maxRecDepth 100000 in
set_option maxHeartbeats 4000000 in
theorem mtX9_rankOf {G : ac_G} {l : Launch} : ac_Met G l yX9_rankOf mX9_rankOf 1 22 0 0 spX9_rankOf := by
  refine ac_meth (pcs := pcX9_rankOf) (B := fun P X J j => vcX9_rankOf spX9_isAhead P X J j) (by decide) rfl rfl rfl (fun P X J hJ j => sdX9_rankOf mtX9_isAhead P X J hJ j) (hp_RI (by decide)) fun As h hp => ?_
  obtain ⟨m, r, rfl, hp⟩ := sh_RI_inv hp
  obtain ⟨hK, hI, r0, r1⟩ := hp
  have hM := mt_0 hK
  obtain ⟨T, hT⟩ : ∃ T, tv h m = T := ⟨_, rfl⟩
  rw [hT] at hM hI r1
  have hI5 := hI.2.2.2.2.1
  refine ⟨ivX9_rankOf m r h T, 1000, ⟨rfl, rfl, rfl, rfl, rfl, rfl⟩, fun j mm L S g k z hJ => ?_⟩
  match j, hJ with
  | 0, hJ =>
    obtain ⟨hm, rfl, rfl, rfl, rfl, rfl⟩ := hJ
    simp only [spX9_rankOf, vcX9_rankOf, mX9_rankOf, spX9_isAhead, ac_ent, ldI, ldR, stI, stR, inc, cI, cJ, cN, bop, oAdd, oSub, oMul, oAnd, oOr, oXor, oShl, oShr, oUshr, oRem, oDiv, oMx, oMn, oI2l, oLcmp, oDup, oDup2, oDupX1, oPop, bIc, bI0, bNul, getI, getR, putI, putZ, putR, aLen, aldI, aldZ, aldJ, aldR, astI, astZ, astJ, astR, nwO, nwA, gsT, oObj, oCpy, oCln, oCst, rtI, rtZ, rtR, rtV, thr, call, callH, ac_hsel, ac_as, ac_rs, ac_cs, ac_rcv, List.map_cons, List.map_nil, List.length_cons, List.length_nil, List.replicate, List.append_nil, List.cons_append, List.nil_append, List.getElem?_cons_zero, List.getElem?_cons_succ, List.set, Nat.zero_add, Nat.add_zero, Nat.le_refl, Nat.reduceAdd, Nat.reduceSub, Nat.reduceLeDiff, Int.reduceLT, Int.reduceLE, Int.reduceNeg, Int.reduceEq, true_and, and_true, true_or, or_true, not_true_eq_false, not_false_eq_true, false_implies, true_implies, implies_true, reduceIte, and_self, Int.reduceAdd, Int.reduceMul, Int.reduceSub, eq_self, Int.add_zero, Int.zero_add, String.reduceEq, Nat.zero_le, Option.some.injEq, Sum.inl.injEq, Sum.inr.injEq, reduceCtorEq, Int.reduceToNat, Option.toList_some, Option.toList_none, ac_cs, ac_c10, ac_c11, ac_c12, ac_c13, ac_c14, ac_c15, ac_c16, ac_c17, sc_E, sh_E, sc_I, sh_I, sc_II, sh_II, sc_III, sh_III, sc_R, sh_R, sc_RI, sh_RI, sc_RII, sh_RII, sc_RIII, sh_RIII, sc_RIIII, sh_RIIII, sc_RR, sh_RR, sc_RRI, sh_RRI, sc_RRR, sh_RRR, sc_RIR, sh_RIR, sc_RIRI, sh_RIRI, sc_RRII, sh_RRII, sc_RRIII, sh_RRIII, sc_RIIRR, sh_RIIRR, sc_RIIIRR, sh_RIIIRR, sc_RIIR, sh_RIIR, sc_RRIIR, sh_RRIIR, sc_RRIIIR, sh_RRIIIR, sc_RRIIIIR, sh_RRIIIIR, sc_RRIR, sh_RRIR]
    exact ⟨60, by omega, 0, by omega, by omega, rfl, rfl, rfl, rfl, rfl⟩
  | 1, hJ =>
    obtain ⟨o, o1, hm, rfl, rfl, rfl, rfl, rfl⟩ := hJ
    have cr := cnT_r T r o
    have nxt : o < T 25 0 → ∀ d : Int, d = (if ahT T r o then 1 else 0) → ∃ m', m' < mm ∧ ivX9_rankOf m r g T 1 m' [some (.inr (.inl m)), some (.inl r), some (.inl (wr (cnT T r o + d))), some (.inl (wr ((o : Int) + 1)))] [] g 0 0 := by
      intro q d hd
      refine ⟨mm - 1, by omega, o + 1, by omega, by omega, ?_, rfl, rfl, rfl, rfl⟩
      rw [cnT, ← hd, wr_of (by split at hd <;> omega) (by split at hd <;> omega), wr_of (by omega) (by omega)]
      rfl
    simp only [spX9_rankOf, vcX9_rankOf, mX9_rankOf, spX9_isAhead, ac_ent, ldI, ldR, stI, stR, inc, cI, cJ, cN, bop, oAdd, oSub, oMul, oAnd, oOr, oXor, oShl, oShr, oUshr, oRem, oDiv, oMx, oMn, oI2l, oLcmp, oDup, oDup2, oDupX1, oPop, bIc, bI0, bNul, getI, getR, putI, putZ, putR, aLen, aldI, aldZ, aldJ, aldR, astI, astZ, astJ, astR, nwO, nwA, gsT, oObj, oCpy, oCln, oCst, rtI, rtZ, rtR, rtV, thr, call, callH, ac_hsel, ac_as, ac_rs, ac_cs, ac_rcv, List.map_cons, List.map_nil, List.length_cons, List.length_nil, List.replicate, List.append_nil, List.cons_append, List.nil_append, List.getElem?_cons_zero, List.getElem?_cons_succ, List.set, Nat.zero_add, Nat.add_zero, Nat.le_refl, Nat.reduceAdd, Nat.reduceSub, Nat.reduceLeDiff, Int.reduceLT, Int.reduceLE, Int.reduceNeg, Int.reduceEq, true_and, and_true, true_or, or_true, not_true_eq_false, not_false_eq_true, false_implies, true_implies, implies_true, reduceIte, and_self, Int.reduceAdd, Int.reduceMul, Int.reduceSub, eq_self, Int.add_zero, Int.zero_add, String.reduceEq, Nat.zero_le, Option.some.injEq, Sum.inl.injEq, Sum.inr.injEq, reduceCtorEq, Int.reduceToNat, Option.toList_some, Option.toList_none, ac_cs, ac_c10, ac_c11, ac_c12, ac_c13, ac_c14, ac_c15, ac_c16, ac_c17, sc_E, sh_E, sc_I, sh_I, sc_II, sh_II, sc_III, sh_III, sc_R, sh_R, sc_RI, sh_RI, sc_RII, sh_RII, sc_RIII, sh_RIII, sc_RIIII, sh_RIIII, sc_RR, sh_RR, sc_RRI, sh_RRI, sc_RRR, sh_RRR, sc_RIR, sh_RIR, sc_RIRI, sh_RIRI, sc_RRII, sh_RRII, sc_RRIII, sh_RRIII, sc_RIIRR, sh_RIIRR, sc_RIIIRR, sh_RIIIRR, sc_RIIR, sh_RIIR, sc_RRIIR, sh_RRIIR, sc_RRIIIR, sh_RRIIIR, sc_RRIIIIR, sh_RRIIIIR, sc_RRIR, sh_RRIR, mt_k hM, mr_25 hM, mr_30 hM, mk_30 hM, ml_30 hM, mr_31 hM, mk_31 hM, ml_31 hM, hT, mt_K hM, Int.add_zero]
    refine ⟨fun q => ⟨⟨r0, by omega⟩, fun e => ?_, fun e => ?_⟩, fun q => ⟨⟨by omega, by omega⟩, fun e => ⟨⟨by omega, by omega⟩, ⟨r0, by omega⟩, fun e2 => ⟨⟨by omega, by omega, r0, by omega⟩, ?_⟩, fun e2 => ?_⟩, fun e => ?_⟩⟩
    · have : o = (T 25 0).toNat := by omega
      rw [rkT, if_pos e, ← this]
    · rw [rkT, if_neg e]
    · rintro v h' ⟨rfl, rfl⟩
      simp only [b01_0, ac_ent, ldI, ldR, stI, stR, inc, cI, cJ, cN, bop, oAdd, oSub, oMul, oAnd, oOr, oXor, oShl, oShr, oUshr, oRem, oDiv, oMx, oMn, oI2l, oLcmp, oDup, oDup2, oDupX1, oPop, bIc, bI0, bNul, getI, getR, putI, putZ, putR, aLen, aldI, aldZ, aldJ, aldR, astI, astZ, astJ, astR, nwO, nwA, gsT, oObj, oCpy, oCln, oCst, rtI, rtZ, rtR, rtV, thr, call, callH, ac_hsel, ac_as, ac_rs, ac_cs, ac_rcv, List.map_cons, List.map_nil, List.length_cons, List.length_nil, List.replicate, List.append_nil, List.cons_append, List.nil_append, List.getElem?_cons_zero, List.getElem?_cons_succ, List.set, Nat.zero_add, Nat.add_zero, Nat.le_refl, Nat.reduceAdd, Nat.reduceSub, Nat.reduceLeDiff, Int.reduceLT, Int.reduceLE, Int.reduceNeg, Int.reduceEq, true_and, and_true, true_or, or_true, not_true_eq_false, not_false_eq_true, false_implies, true_implies, implies_true, reduceIte, and_self, Int.reduceAdd, Int.reduceMul, Int.reduceSub, eq_self, Int.add_zero, Int.zero_add, String.reduceEq, Nat.zero_le, Option.some.injEq, Sum.inl.injEq, Sum.inr.injEq, reduceCtorEq, Int.reduceToNat, Option.toList_some, Option.toList_none, ac_cs, ac_c10, ac_c11, ac_c12, ac_c13, ac_c14, ac_c15, ac_c16, ac_c17, sc_E, sh_E, sc_I, sh_I, sc_II, sh_II, sc_III, sh_III, sc_R, sh_R, sc_RI, sh_RI, sc_RII, sh_RII, sc_RIII, sh_RIII, sc_RIIII, sh_RIIII, sc_RR, sh_RR, sc_RRI, sh_RRI, sc_RRR, sh_RRR, sc_RIR, sh_RIR, sc_RIRI, sh_RIRI, sc_RRII, sh_RRII, sc_RRIII, sh_RRIII, sc_RIIRR, sh_RIIRR, sc_RIIIRR, sh_RIIIRR, sc_RIIR, sh_RIIR, sc_RRIIR, sh_RRIIR, sc_RRIIIR, sh_RRIIIR, sc_RRIIIIR, sh_RRIIIIR, sc_RRIR, sh_RRIR]
      refine ⟨fun e3 => ?_, fun e3 => ?_⟩
      · have := nxt (by omega) 0 (by rw [if_neg (fun w => e3 w.2)])
        rw [Int.add_zero] at this
        exact this
      · exact nxt (by omega) 1 (by rw [if_pos ⟨⟨e, e2⟩, Decidable.not_not.mp e3⟩])
    · have := nxt (by omega) 0 (by rw [if_neg (fun w => e2 w.1.2)])
      rw [Int.add_zero] at this
      exact this
    · have := nxt (by omega) 0 (by rw [if_neg (fun w => e w.1.1)])
      rw [Int.add_zero] at this
      exact this
  | j + 2, hJ => exact hJ.elim
theorem TS_rn {T : mT} {s : sS} (hT : TS T s) {r : Int} (r0 : 0 ≤ r) (r1 : r < T 25 0) : r < s 18 0 0 ∧ T 26 r = s 19 r 0 ∧ T 28 r = s 21 r 0 ∧ T 29 r = s 22 r 0 ∧ T 30 r = s 23 r 0 ∧ T 31 r = s 24 r 0 := by
  obtain ⟨e, h⟩ := hT.2.2.2.2
  have := h r r0 (by omega)
  exact ⟨by omega, this.1, this.2.1, this.2.2.1, this.2.2.2.1, this.2.2.2.2.1⟩
theorem TS_cn {T : mT} {s : sS} (hT : TS T s) {r : Int} (r0 : 0 ≤ r) (r1 : r < T 25 0) : ∀ n : Nat, (n : Int) ≤ T 25 0 → cnT T r n = cnS s r n
  | 0, _ => rfl
  | n + 1, hn => by
    rw [cnT, cnS, TS_cn hT r0 r1 n (by omega)]
    obtain ⟨a1, a2, a3, a4, a5, a6⟩ := TS_rn hT r0 r1
    obtain ⟨b1, b2, b3, b4, b5, b6⟩ := TS_rn hT (r := n) (by omega) (by omega)
    unfold ahT ahS
    rw [a3, a4, a5, b3, b4, b5, b6]
theorem TS_rk {T : mT} {s : sS} (hT : TS T s) {r : Int} (r0 : 0 ≤ r) (r1 : r < T 25 0) : rkT T r = vlRank r s := by
  have e := hT.2.2.2.2.1
  unfold rkT vlRank rkS
  rw [TS_cn hT r0 r1 _ (by omega), e, (TS_rn hT r0 r1).2.2.2.2.2]
def spX9_rank : ac_Sp := sc_RI (fun m r h => MW h m) (fun m r h v h' => OKm m h h' v (cdRun r) (vlRank r) id) (fun _ _ _ _ _ => False)
set_option maxRecDepth 100000 in
set_option maxHeartbeats 4000000 in
theorem mtX9_rank {G : ac_G} {l : Launch} : ac_Met G l yX9_rank mX9_rank 2 45 0 0 spX9_rank := by
  refine ac_meth1 (pcs := pcX9_rank) (B := fun P X J j => vcX9_rank spX9_isRun spX9_holds spX9_rankOf P X J j) (by decide) rfl rfl rfl (fun P X J hJ j => sdX9_rank mtX9_isRun mtX9_holds mtX9_rankOf P X J hJ j) (hp_RI (by decide)) fun As h hp => ?_
  obtain ⟨m, r, rfl, hp⟩ := sh_RI_inv hp
  simp only [spX9_rank, vcX9_rank, mX9_rank, spX9_isRun, spX9_holds, spX9_rankOf, sc_RI, sh_RI, ac_ent, ldI, ldR, stI, stR, inc, cI, cJ, cN, bop, oAdd, oSub, oMul, oAnd, oOr, oXor, oShl, oShr, oUshr, oRem, oDiv, oMx, oMn, oI2l, oLcmp, oDup, oDup2, oDupX1, oPop, bIc, bI0, bNul, getI, getR, putI, putZ, putR, aLen, aldI, aldZ, aldJ, aldR, astI, astZ, astJ, astR, nwO, nwA, gsT, oObj, oCpy, oCln, oCst, rtI, rtZ, rtR, rtV, thr, call, callH, ac_hsel, ac_as, ac_rs, ac_cs, ac_rcv, List.map_cons, List.map_nil, List.length_cons, List.length_nil, List.replicate, List.append_nil, List.cons_append, List.nil_append, List.getElem?_cons_zero, List.getElem?_cons_succ, List.set, Nat.zero_add, Nat.add_zero, Nat.le_refl, Nat.reduceAdd, Nat.reduceSub, Nat.reduceLeDiff, Int.reduceLT, Int.reduceLE, Int.reduceNeg, Int.reduceEq, true_and, and_true, true_or, or_true, not_true_eq_false, not_false_eq_true, false_implies, true_implies, implies_true, reduceIte, and_self, Int.reduceAdd, Int.reduceMul, Int.reduceSub, eq_self, Int.add_zero, Int.zero_add, String.reduceEq, Nat.zero_le, Option.some.injEq, Sum.inl.injEq, Sum.inr.injEq, reduceCtorEq, Int.reduceToNat, Option.toList_some, Option.toList_none, ac_cs, ac_c10, ac_c11, ac_c12, ac_c13, ac_c14, ac_c15, ac_c16, ac_c17, sc_E, sh_E, sc_I, sh_I, sc_II, sh_II, sc_III, sh_III, sc_R, sh_R, sc_RI, sh_RI, sc_RII, sh_RII, sc_RIII, sh_RIII, sc_RIIII, sh_RIIII, sc_RR, sh_RR, sc_RRI, sh_RRI, sc_RRR, sh_RRR, sc_RIR, sh_RIR, sc_RIRI, sh_RIRI, sc_RRII, sh_RRII, sc_RRIII, sh_RRIII, sc_RIIRR, sh_RIIRR, sc_RIIIRR, sh_RIIIRR, sc_RIIR, sh_RIIR, sc_RRIIR, sh_RRIIR, sc_RRIIIR, sh_RRIIIR, sc_RRIIIIR, sh_RRIIIIR, sc_RRIR, sh_RRIR]
  obtain ⟨T, hM, hI⟩ := MW_I hp
  simp only [mt_k hM, mt_K hM, mt_T hM, hI, ac_ent, ldI, ldR, stI, stR, inc, cI, cJ, cN, bop, oAdd, oSub, oMul, oAnd, oOr, oXor, oShl, oShr, oUshr, oRem, oDiv, oMx, oMn, oI2l, oLcmp, oDup, oDup2, oDupX1, oPop, bIc, bI0, bNul, getI, getR, putI, putZ, putR, aLen, aldI, aldZ, aldJ, aldR, astI, astZ, astJ, astR, nwO, nwA, gsT, oObj, oCpy, oCln, oCst, rtI, rtZ, rtR, rtV, thr, call, callH, ac_hsel, ac_as, ac_rs, ac_cs, ac_rcv, List.map_cons, List.map_nil, List.length_cons, List.length_nil, List.replicate, List.append_nil, List.cons_append, List.nil_append, List.getElem?_cons_zero, List.getElem?_cons_succ, List.set, Nat.zero_add, Nat.add_zero, Nat.le_refl, Nat.reduceAdd, Nat.reduceSub, Nat.reduceLeDiff, Int.reduceLT, Int.reduceLE, Int.reduceNeg, Int.reduceEq, true_and, and_true, true_or, or_true, not_true_eq_false, not_false_eq_true, false_implies, true_implies, implies_true, reduceIte, and_self, Int.reduceAdd, Int.reduceMul, Int.reduceSub, eq_self, Int.add_zero, Int.zero_add, String.reduceEq, Nat.zero_le, Option.some.injEq, Sum.inl.injEq, Sum.inr.injEq, reduceCtorEq, Int.reduceToNat, Option.toList_some, Option.toList_none, ac_cs, ac_c10, ac_c11, ac_c12, ac_c13, ac_c14, ac_c15, ac_c16, ac_c17, sc_E, sh_E, sc_I, sh_I, sc_II, sh_II, sc_III, sh_III, sc_R, sh_R, sc_RI, sh_RI, sc_RII, sh_RII, sc_RIII, sh_RIII, sc_RIIII, sh_RIIII, sc_RR, sh_RR, sc_RRI, sh_RRI, sc_RRR, sh_RRR, sc_RIR, sh_RIR, sc_RIRI, sh_RIRI, sc_RRII, sh_RRII, sc_RRIII, sh_RRIII, sc_RIIRR, sh_RIIRR, sc_RIIIRR, sh_RIIIRR, sc_RIIR, sh_RIIR, sc_RRIIR, sh_RRIIR, sc_RRIIIR, sh_RRIIIR, sc_RRIIIIR, sh_RRIIIIR, sc_RRIR, sh_RRIR]
  rintro v h' ⟨rfl, rfl⟩
  simp only [b01_0, mt_k hM, mt_K hM, mt_T hM, ac_ent, ldI, ldR, stI, stR, inc, cI, cJ, cN, bop, oAdd, oSub, oMul, oAnd, oOr, oXor, oShl, oShr, oUshr, oRem, oDiv, oMx, oMn, oI2l, oLcmp, oDup, oDup2, oDupX1, oPop, bIc, bI0, bNul, getI, getR, putI, putZ, putR, aLen, aldI, aldZ, aldJ, aldR, astI, astZ, astJ, astR, nwO, nwA, gsT, oObj, oCpy, oCln, oCst, rtI, rtZ, rtR, rtV, thr, call, callH, ac_hsel, ac_as, ac_rs, ac_cs, ac_rcv, List.map_cons, List.map_nil, List.length_cons, List.length_nil, List.replicate, List.append_nil, List.cons_append, List.nil_append, List.getElem?_cons_zero, List.getElem?_cons_succ, List.set, Nat.zero_add, Nat.add_zero, Nat.le_refl, Nat.reduceAdd, Nat.reduceSub, Nat.reduceLeDiff, Int.reduceLT, Int.reduceLE, Int.reduceNeg, Int.reduceEq, true_and, and_true, true_or, or_true, not_true_eq_false, not_false_eq_true, false_implies, true_implies, implies_true, reduceIte, and_self, Int.reduceAdd, Int.reduceMul, Int.reduceSub, eq_self, Int.add_zero, Int.zero_add, String.reduceEq, Nat.zero_le, Option.some.injEq, Sum.inl.injEq, Sum.inr.injEq, reduceCtorEq, Int.reduceToNat, Option.toList_some, Option.toList_none, ac_cs, ac_c10, ac_c11, ac_c12, ac_c13, ac_c14, ac_c15, ac_c16, ac_c17, sc_E, sh_E, sc_I, sh_I, sc_II, sh_II, sc_III, sh_III, sc_R, sh_R, sc_RI, sh_RI, sc_RII, sh_RII, sc_RIII, sh_RIII, sc_RIIII, sh_RIIII, sc_RR, sh_RR, sc_RRI, sh_RRI, sc_RRR, sh_RRR, sc_RIR, sh_RIR, sc_RIRI, sh_RIRI, sc_RRII, sh_RRII, sc_RRIII, sh_RRIII, sc_RIIRR, sh_RIIRR, sc_RIIIRR, sh_RIIIRR, sc_RIIR, sh_RIIR, sc_RRIIR, sh_RRIIR, sc_RRIIIR, sh_RRIIIR, sc_RRIIIIR, sh_RRIIIIR, sc_RRIR, sh_RRIR]
  refine ⟨fun e => ?_, fun e => ?_⟩
  · rintro v h' ⟨hm, rfl⟩
    simp only [b01_0, ac_ent, ldI, ldR, stI, stR, inc, cI, cJ, cN, bop, oAdd, oSub, oMul, oAnd, oOr, oXor, oShl, oShr, oUshr, oRem, oDiv, oMx, oMn, oI2l, oLcmp, oDup, oDup2, oDupX1, oPop, bIc, bI0, bNul, getI, getR, putI, putZ, putR, aLen, aldI, aldZ, aldJ, aldR, astI, astZ, astJ, astR, nwO, nwA, gsT, oObj, oCpy, oCln, oCst, rtI, rtZ, rtR, rtV, thr, call, callH, ac_hsel, ac_as, ac_rs, ac_cs, ac_rcv, List.map_cons, List.map_nil, List.length_cons, List.length_nil, List.replicate, List.append_nil, List.cons_append, List.nil_append, List.getElem?_cons_zero, List.getElem?_cons_succ, List.set, Nat.zero_add, Nat.add_zero, Nat.le_refl, Nat.reduceAdd, Nat.reduceSub, Nat.reduceLeDiff, Int.reduceLT, Int.reduceLE, Int.reduceNeg, Int.reduceEq, true_and, and_true, true_or, or_true, not_true_eq_false, not_false_eq_true, false_implies, true_implies, implies_true, reduceIte, and_self, Int.reduceAdd, Int.reduceMul, Int.reduceSub, eq_self, Int.add_zero, Int.zero_add, String.reduceEq, Nat.zero_le, Option.some.injEq, Sum.inl.injEq, Sum.inr.injEq, reduceCtorEq, Int.reduceToNat, Option.toList_some, Option.toList_none, ac_cs, ac_c10, ac_c11, ac_c12, ac_c13, ac_c14, ac_c15, ac_c16, ac_c17, sc_E, sh_E, sc_I, sh_I, sc_II, sh_II, sc_III, sh_III, sc_R, sh_R, sc_RI, sh_RI, sc_RII, sh_RII, sc_RIII, sh_RIII, sc_RIIII, sh_RIIII, sc_RR, sh_RR, sc_RRI, sh_RRI, sc_RRR, sh_RRR, sc_RIR, sh_RIR, sc_RIRI, sh_RIRI, sc_RRII, sh_RRII, sc_RRIII, sh_RRIII, sc_RIIRR, sh_RIIRR, sc_RIIIRR, sh_RIIIRR, sc_RIIR, sh_RIIR, sc_RRIIR, sh_RRIIR, sc_RRIIIR, sh_RRIIIR, sc_RRIIIIR, sh_RRIIIIR, sc_RRIR, sh_RRIR]
    exact OK_e hm (mt_T hM) (by decide) fun s hT hS => if_neg (by rw [hT.2.2.2.2.1] at e; exact e)
  · rintro v h' ⟨hm, rfl⟩
    have e' : 0 ≤ r ∧ r < T 25 0 := Decidable.not_not.mp e
    have hIx : MI (tu T 0 0 0) := MI_sc scr_0 hI
    have z25 : tu T 0 0 0 25 = T 25 := tu_k (by decide)
    simp only [b01_0, mt_k hm, mt_K hm, mt_T hm, hIx, z25, e', ac_ent, ldI, ldR, stI, stR, inc, cI, cJ, cN, bop, oAdd, oSub, oMul, oAnd, oOr, oXor, oShl, oShr, oUshr, oRem, oDiv, oMx, oMn, oI2l, oLcmp, oDup, oDup2, oDupX1, oPop, bIc, bI0, bNul, getI, getR, putI, putZ, putR, aLen, aldI, aldZ, aldJ, aldR, astI, astZ, astJ, astR, nwO, nwA, gsT, oObj, oCpy, oCln, oCst, rtI, rtZ, rtR, rtV, thr, call, callH, ac_hsel, ac_as, ac_rs, ac_cs, ac_rcv, List.map_cons, List.map_nil, List.length_cons, List.length_nil, List.replicate, List.append_nil, List.cons_append, List.nil_append, List.getElem?_cons_zero, List.getElem?_cons_succ, List.set, Nat.zero_add, Nat.add_zero, Nat.le_refl, Nat.reduceAdd, Nat.reduceSub, Nat.reduceLeDiff, Int.reduceLT, Int.reduceLE, Int.reduceNeg, Int.reduceEq, true_and, and_true, true_or, or_true, not_true_eq_false, not_false_eq_true, false_implies, true_implies, implies_true, reduceIte, and_self, Int.reduceAdd, Int.reduceMul, Int.reduceSub, eq_self, Int.add_zero, Int.zero_add, String.reduceEq, Nat.zero_le, Option.some.injEq, Sum.inl.injEq, Sum.inr.injEq, reduceCtorEq, Int.reduceToNat, Option.toList_some, Option.toList_none, ac_cs, ac_c10, ac_c11, ac_c12, ac_c13, ac_c14, ac_c15, ac_c16, ac_c17, sc_E, sh_E, sc_I, sh_I, sc_II, sh_II, sc_III, sh_III, sc_R, sh_R, sc_RI, sh_RI, sc_RII, sh_RII, sc_RIII, sh_RIII, sc_RIIII, sh_RIIII, sc_RR, sh_RR, sc_RRI, sh_RRI, sc_RRR, sh_RRR, sc_RIR, sh_RIR, sc_RIRI, sh_RIRI, sc_RRII, sh_RRII, sc_RRIII, sh_RRIII, sc_RIIRR, sh_RIIRR, sc_RIIIRR, sh_RIIIRR, sc_RIIR, sh_RIIR, sc_RRIIR, sh_RRIIR, sc_RRIIIR, sh_RRIIIR, sc_RRIIIIR, sh_RRIIIIR, sc_RRIR, sh_RRIR]
    rintro v h' ⟨rfl, rfl⟩
    simp only [ac_ent, ldI, ldR, stI, stR, inc, cI, cJ, cN, bop, oAdd, oSub, oMul, oAnd, oOr, oXor, oShl, oShr, oUshr, oRem, oDiv, oMx, oMn, oI2l, oLcmp, oDup, oDup2, oDupX1, oPop, bIc, bI0, bNul, getI, getR, putI, putZ, putR, aLen, aldI, aldZ, aldJ, aldR, astI, astZ, astJ, astR, nwO, nwA, gsT, oObj, oCpy, oCln, oCst, rtI, rtZ, rtR, rtV, thr, call, callH, ac_hsel, ac_as, ac_rs, ac_cs, ac_rcv, List.map_cons, List.map_nil, List.length_cons, List.length_nil, List.replicate, List.append_nil, List.cons_append, List.nil_append, List.getElem?_cons_zero, List.getElem?_cons_succ, List.set, Nat.zero_add, Nat.add_zero, Nat.le_refl, Nat.reduceAdd, Nat.reduceSub, Nat.reduceLeDiff, Int.reduceLT, Int.reduceLE, Int.reduceNeg, Int.reduceEq, true_and, and_true, true_or, or_true, not_true_eq_false, not_false_eq_true, false_implies, true_implies, implies_true, reduceIte, and_self, Int.reduceAdd, Int.reduceMul, Int.reduceSub, eq_self, Int.add_zero, Int.zero_add, String.reduceEq, Nat.zero_le, Option.some.injEq, Sum.inl.injEq, Sum.inr.injEq, reduceCtorEq, Int.reduceToNat, Option.toList_some, Option.toList_none, ac_cs, ac_c10, ac_c11, ac_c12, ac_c13, ac_c14, ac_c15, ac_c16, ac_c17, sc_E, sh_E, sc_I, sh_I, sc_II, sh_II, sc_III, sh_III, sc_R, sh_R, sc_RI, sh_RI, sc_RII, sh_RII, sc_RIII, sh_RIII, sc_RIIII, sh_RIIII, sc_RR, sh_RR, sc_RRI, sh_RRI, sc_RRR, sh_RRR, sc_RIR, sh_RIR, sc_RIRI, sh_RIRI, sc_RRII, sh_RRII, sc_RRIII, sh_RRIII, sc_RIIRR, sh_RIIRR, sc_RIIIRR, sh_RIIIRR, sc_RIIR, sh_RIIR, sc_RRIIR, sh_RRIIR, sc_RRIIIR, sh_RRIIIR, sc_RRIIIIR, sh_RRIIIIR, sc_RRIR, sh_RRIR]
    refine OK_r hm (mt_T hM) fun s hT hS => ⟨if_pos (by rw [← hT.2.2.2.2.1]; exact e'), ?_⟩
    exact TS_rk (TS_0 hT) e'.1 (by rw [z25]; exact e'.2)
/-- ranks are told apart -/
theorem ahd_irr {c l n : Int} : ¬ ahd c l n c l n := by unfold ahd; rw [if_pos rfl, if_pos rfl]; omega
theorem ahd_tr {c1 l1 n1 c2 l2 n2 c3 l3 n3 : Int} (a : ahd c1 l1 n1 c2 l2 n2) (b : ahd c2 l2 n2 c3 l3 n3) : ahd c1 l1 n1 c3 l3 n3 := by
  unfold ahd at *
  repeat' split
  all_goals (repeat' split at a)
  all_goals (repeat' split at b)
  all_goals omega
theorem ahd_tot {c1 l1 n1 c2 l2 n2 : Int} (h : n1 ≠ n2) : ahd c1 l1 n1 c2 l2 n2 ∨ ahd c2 l2 n2 c1 l1 n1 := by
  unfold ahd
  by_cases e : c1 = c2
  · rw [if_pos e, if_pos e.symm]
    by_cases e2 : l1 = l2
    · rw [if_pos e2, if_pos e2.symm]; omega
    · rw [if_neg e2, if_neg (Ne.symm e2)]; omega
  · rw [if_neg e, if_neg (Ne.symm e)]; omega
theorem cnS_le {s : sS} {i j : Int} (h : ∀ o : Int, ahS s i o → ahS s j o) : ∀ n, cnS s i n ≤ cnS s j n
  | 0 => by simp [cnS]
  | n + 1 => by
    have := cnS_le h n
    rw [cnS, cnS]
    by_cases q : ahS s i n
    · rw [if_pos q, if_pos (h _ q)]; omega
    · rw [if_neg q]; split <;> omega
theorem cnS_lt {s : sS} {i j : Int} {o : Nat} (h : ∀ o : Int, ahS s i o → ahS s j o) (h1 : ¬ ahS s i o) (h2 : ahS s j o) : ∀ n, o < n → cnS s i n < cnS s j n
  | 0, q => by omega
  | n + 1, q => by
    rw [cnS, cnS]
    by_cases e : o = n
    · subst e
      have := cnS_le h o
      rw [if_neg h1, if_pos h2]; omega
    · have := cnS_lt h h1 h2 n (by omega)
      by_cases q : ahS s i n
      · rw [if_pos q, if_pos (h _ q)]; omega
      · rw [if_neg q]; split <;> omega
theorem rkS_lt {s : sS} {i j : Int} (hi : s 24 i 0 = -1) (hd : s 23 i 0 = s 23 j 0) (i0 : 0 ≤ i) (i1 : i < s 18 0 0) (ha : ahd (s 22 i 0) (s 21 i 0) i (s 22 j 0) (s 21 j 0) j) : rkS s i < rkS s j := by
  unfold rkS
  have e : ((i.toNat : Nat) : Int) = i := Int.toNat_of_nonneg i0
  refine cnS_lt (o := i.toNat) (fun o ho => ⟨⟨ho.1.1, ho.1.2.trans hd⟩, ahd_tr ho.2 ha⟩) ?_ ?_ _ (by omega)
  · rw [e]; exact fun q => ahd_irr q.2
  · rw [e]; exact ⟨⟨hi, hd⟩, ha⟩
theorem rkP_u {s : sS} {d k i j : Int} (i0 : 0 ≤ i) (i1 : i < s 18 0 0) (j0 : 0 ≤ j) (j1 : j < s 18 0 0) (hi : rkP s d k i = true) (hj : rkP s d k j = true) : i = j := by
  have hi := of_decide_eq_true hi
  have hj := of_decide_eq_true hj
  by_cases q : i = j
  · exact q
  · exfalso
    rcases ahd_tot (c1 := s 22 i 0) (l1 := s 21 i 0) (c2 := s 22 j 0) (l2 := s 21 j 0) q with a | a
    · have := rkS_lt hi.1.1 (hi.1.2.trans hj.1.2.symm) i0 i1 a
      omega
    · have := rkS_lt hj.1.1 (hj.1.2.trans hi.1.2.symm) j0 j1 a
      omega
def lst (P : Int → Bool) : Nat → Int
  | 0 => -1
  | n + 1 => if P n then n else lst P n
theorem lst_fnd {P : Int → Bool} : ∀ n : Nat, (∀ i j : Int, 0 ≤ i → i < n → 0 ≤ j → j < n → P i = true → P j = true → i = j) → lst P n = fnd P n
  | 0, _ => rfl
  | n + 1, h => by
    have ih := lst_fnd n fun i j a b c d => h i j a (by omega) c (by omega)
    rw [lst]
    by_cases q : P n = true
    · rw [if_pos q]
      refine (fnd_some (by omega) (by omega) q fun j j0 j1 => ?_).symm
      cases hj : P j
      · rfl
      · have := h j n j0 (by omega) (by omega) (by omega) hj q; omega
    · rw [if_neg q, ih]
      rcases fnd_cases (P := P) n with ⟨a1, a2⟩ | ⟨a1, a2, a3, a4⟩
      · rw [a1]
        refine (fnd_none fun j j0 j1 => ?_).symm
        by_cases e : j = n
        · rw [e]; exact Bool.not_eq_true _ ▸ q
        · exact a2 j j0 (by omega)
      · exact (fnd_some a1 (by omega) a3 a4).symm
def rpT (T : mT) (d k i : Int) : Bool := decide ((T 30 i = d ∧ T 31 i = -1) ∧ rkT T i = k)
theorem TS_ranked {T : mT} {s : sS} {d k : Int} (hT : TS T s) (hS : SI s) : lst (rpT T d k) (T 25 0).toNat = vlRanked d k s := by
  have e := hT.2.2.2.2.1
  have h18 := hS.2.2.2.2.2.2.2.2.2.2.2.1
  have hc : ∀ i : Int, 0 ≤ i → i < T 25 0 → rpT T d k i = rkP s d k i := fun i i0 i1 => by
    obtain ⟨a1, a2, a3, a4, a5, a6⟩ := TS_rn hT i0 i1
    unfold rpT rkP
    rw [a5, a6, TS_rk hT i0 i1, vlRank]
    by_cases q : s 24 i 0 = -1
    · rw [if_pos q]
      simp [q]
    · simp [q]
  unfold vlRanked
  rw [lst_fnd _ fun i j a b c d p1 p2 => ?_, e, fnd_congr _ fun i a b => hc i a (by omega)]
  rw [hc i a (by omega)] at p1
  rw [hc j c (by omega)] at p2
  exact rkP_u a (by omega) c (by omega) p1 p2
def spX9_ranked : ac_Sp := sc_RII (fun m d k h => MW h m) (fun m d k h v h' => OKm m h h' v (cdRanked d k) (vlRanked d k) id) (fun _ _ _ _ _ _ => False)
def ivX9_ranked (m d kk : Int) (h : ac_H) (T : mT) : Nat → Nat → ac_S := fun j mm => match j with
  | 0 => fun L S g k z => mm = 1000 ∧ ent0 [some (.inr (.inl m)), some (.inl d), some (.inl kk), none, none] h L S g k z
  | 1 => fun L S g k z => ∃ o : Nat, (o : Int) ≤ T 25 0 ∧ mm + o = 60 ∧ MT h g m (tu T 0 0 0) ∧ ((0 ≤ d ∧ d < T 15 0) ∧ 0 ≤ kk) ∧ L = [some (.inr (.inl m)), some (.inl d), some (.inl kk), some (.inl (lst (rpT T d kk) o)), some (.inl o)] ∧ S = [] ∧ k = 0 ∧ z = 0
  | _ => fun _ _ _ _ _ => False
set_option maxRecDepth 100000 in
set_option maxHeartbeats 4000000 in
theorem mtX9_ranked {G : ac_G} {l : Launch} : ac_Met G l yX9_ranked mX9_ranked 2 45 0 0 spX9_ranked := by
  refine ac_meth (pcs := pcX9_ranked) (B := fun P X J j => vcX9_ranked spX9_isDungeon spX9_holds spX9_rankOf P X J j) (by decide) rfl rfl rfl (fun P X J hJ j => sdX9_ranked mtX9_isDungeon mtX9_holds mtX9_rankOf P X J hJ j) (hp_RII (by decide)) fun As h hp => ?_
  obtain ⟨m, d, kk, rfl, hp⟩ := sh_RII_inv hp
  obtain ⟨T, hM, hI⟩ := MW_I hp
  have hI5 := hI.2.2.2.2.1
  have hI4 := hI.2.2.2.1
  refine ⟨ivX9_ranked m d kk h T, 1000, ⟨rfl, rfl, rfl, rfl, rfl, rfl⟩, fun j mm L S g k z hJ => ?_⟩
  match j, hJ with
  | 0, hJ =>
    obtain ⟨hm, rfl, rfl, rfl, rfl, rfl⟩ := hJ
    simp only [spX9_ranked, vcX9_ranked, mX9_ranked, spX9_isDungeon, spX9_holds, spX9_rankOf, ac_ent, ldI, ldR, stI, stR, inc, cI, cJ, cN, bop, oAdd, oSub, oMul, oAnd, oOr, oXor, oShl, oShr, oUshr, oRem, oDiv, oMx, oMn, oI2l, oLcmp, oDup, oDup2, oDupX1, oPop, bIc, bI0, bNul, getI, getR, putI, putZ, putR, aLen, aldI, aldZ, aldJ, aldR, astI, astZ, astJ, astR, nwO, nwA, gsT, oObj, oCpy, oCln, oCst, rtI, rtZ, rtR, rtV, thr, call, callH, ac_hsel, ac_as, ac_rs, ac_cs, ac_rcv, List.map_cons, List.map_nil, List.length_cons, List.length_nil, List.replicate, List.append_nil, List.cons_append, List.nil_append, List.getElem?_cons_zero, List.getElem?_cons_succ, List.set, Nat.zero_add, Nat.add_zero, Nat.le_refl, Nat.reduceAdd, Nat.reduceSub, Nat.reduceLeDiff, Int.reduceLT, Int.reduceLE, Int.reduceNeg, Int.reduceEq, true_and, and_true, true_or, or_true, not_true_eq_false, not_false_eq_true, false_implies, true_implies, implies_true, reduceIte, and_self, Int.reduceAdd, Int.reduceMul, Int.reduceSub, eq_self, Int.add_zero, Int.zero_add, String.reduceEq, Nat.zero_le, Option.some.injEq, Sum.inl.injEq, Sum.inr.injEq, reduceCtorEq, Int.reduceToNat, Option.toList_some, Option.toList_none, ac_cs, ac_c10, ac_c11, ac_c12, ac_c13, ac_c14, ac_c15, ac_c16, ac_c17, sc_E, sh_E, sc_I, sh_I, sc_II, sh_II, sc_III, sh_III, sc_R, sh_R, sc_RI, sh_RI, sc_RII, sh_RII, sc_RIII, sh_RIII, sc_RIIII, sh_RIIII, sc_RR, sh_RR, sc_RRI, sh_RRI, sc_RRR, sh_RRR, sc_RIR, sh_RIR, sc_RIRI, sh_RIRI, sc_RRII, sh_RRII, sc_RRIII, sh_RRIII, sc_RIIRR, sh_RIIRR, sc_RIIIRR, sh_RIIIRR, sc_RIIR, sh_RIIR, sc_RRIIR, sh_RRIIR, sc_RRIIIR, sh_RRIIIR, sc_RRIIIIR, sh_RRIIIIR, sc_RRIR, sh_RRIR, mt_k hM, mt_K hM, mt_T hM, hI]
    rintro v h' ⟨rfl, rfl⟩
    simp only [b01_0, mt_k hM, mt_K hM, mt_T hM, ac_ent, ldI, ldR, stI, stR, inc, cI, cJ, cN, bop, oAdd, oSub, oMul, oAnd, oOr, oXor, oShl, oShr, oUshr, oRem, oDiv, oMx, oMn, oI2l, oLcmp, oDup, oDup2, oDupX1, oPop, bIc, bI0, bNul, getI, getR, putI, putZ, putR, aLen, aldI, aldZ, aldJ, aldR, astI, astZ, astJ, astR, nwO, nwA, gsT, oObj, oCpy, oCln, oCst, rtI, rtZ, rtR, rtV, thr, call, callH, ac_hsel, ac_as, ac_rs, ac_cs, ac_rcv, List.map_cons, List.map_nil, List.length_cons, List.length_nil, List.replicate, List.append_nil, List.cons_append, List.nil_append, List.getElem?_cons_zero, List.getElem?_cons_succ, List.set, Nat.zero_add, Nat.add_zero, Nat.le_refl, Nat.reduceAdd, Nat.reduceSub, Nat.reduceLeDiff, Int.reduceLT, Int.reduceLE, Int.reduceNeg, Int.reduceEq, true_and, and_true, true_or, or_true, not_true_eq_false, not_false_eq_true, false_implies, true_implies, implies_true, reduceIte, and_self, Int.reduceAdd, Int.reduceMul, Int.reduceSub, eq_self, Int.add_zero, Int.zero_add, String.reduceEq, Nat.zero_le, Option.some.injEq, Sum.inl.injEq, Sum.inr.injEq, reduceCtorEq, Int.reduceToNat, Option.toList_some, Option.toList_none, ac_cs, ac_c10, ac_c11, ac_c12, ac_c13, ac_c14, ac_c15, ac_c16, ac_c17, sc_E, sh_E, sc_I, sh_I, sc_II, sh_II, sc_III, sh_III, sc_R, sh_R, sc_RI, sh_RI, sc_RII, sh_RII, sc_RIII, sh_RIII, sc_RIIII, sh_RIIII, sc_RR, sh_RR, sc_RRI, sh_RRI, sc_RRR, sh_RRR, sc_RIR, sh_RIR, sc_RIRI, sh_RIRI, sc_RRII, sh_RRII, sc_RRIII, sh_RRIII, sc_RIIRR, sh_RIIRR, sc_RIIIRR, sh_RIIIRR, sc_RIIR, sh_RIIR, sc_RRIIR, sh_RRIIR, sc_RRIIIR, sh_RRIIIR, sc_RRIIIIR, sh_RRIIIIR, sc_RRIR, sh_RRIR]
    refine ⟨fun e => ?_, fun e => ⟨fun e2 => ?_, fun e2 => ?_⟩⟩
    · rintro v h' ⟨hx, rfl⟩
      simp only [b01_0, ac_ent, ldI, ldR, stI, stR, inc, cI, cJ, cN, bop, oAdd, oSub, oMul, oAnd, oOr, oXor, oShl, oShr, oUshr, oRem, oDiv, oMx, oMn, oI2l, oLcmp, oDup, oDup2, oDupX1, oPop, bIc, bI0, bNul, getI, getR, putI, putZ, putR, aLen, aldI, aldZ, aldJ, aldR, astI, astZ, astJ, astR, nwO, nwA, gsT, oObj, oCpy, oCln, oCst, rtI, rtZ, rtR, rtV, thr, call, callH, ac_hsel, ac_as, ac_rs, ac_cs, ac_rcv, List.map_cons, List.map_nil, List.length_cons, List.length_nil, List.replicate, List.append_nil, List.cons_append, List.nil_append, List.getElem?_cons_zero, List.getElem?_cons_succ, List.set, Nat.zero_add, Nat.add_zero, Nat.le_refl, Nat.reduceAdd, Nat.reduceSub, Nat.reduceLeDiff, Int.reduceLT, Int.reduceLE, Int.reduceNeg, Int.reduceEq, true_and, and_true, true_or, or_true, not_true_eq_false, not_false_eq_true, false_implies, true_implies, implies_true, reduceIte, and_self, Int.reduceAdd, Int.reduceMul, Int.reduceSub, eq_self, Int.add_zero, Int.zero_add, String.reduceEq, Nat.zero_le, Option.some.injEq, Sum.inl.injEq, Sum.inr.injEq, reduceCtorEq, Int.reduceToNat, Option.toList_some, Option.toList_none, ac_cs, ac_c10, ac_c11, ac_c12, ac_c13, ac_c14, ac_c15, ac_c16, ac_c17, sc_E, sh_E, sc_I, sh_I, sc_II, sh_II, sc_III, sh_III, sc_R, sh_R, sc_RI, sh_RI, sc_RII, sh_RII, sc_RIII, sh_RIII, sc_RIIII, sh_RIIII, sc_RR, sh_RR, sc_RRI, sh_RRI, sc_RRR, sh_RRR, sc_RIR, sh_RIR, sc_RIRI, sh_RIRI, sc_RRII, sh_RRII, sc_RRIII, sh_RRIII, sc_RIIRR, sh_RIIRR, sc_RIIIRR, sh_RIIIRR, sc_RIIR, sh_RIIR, sc_RRIIR, sh_RRIIR, sc_RRIIIR, sh_RRIIIR, sc_RRIIIIR, sh_RRIIIIR, sc_RRIR, sh_RRIR]
      exact OK_e hx (mt_T hM) (by decide) fun s hT hS => if_neg (by rw [hT.2.2.2.1.1] at e; exact e)
    · rintro v h' ⟨hx, rfl⟩
      simp only [b01_0, ac_ent, ldI, ldR, stI, stR, inc, cI, cJ, cN, bop, oAdd, oSub, oMul, oAnd, oOr, oXor, oShl, oShr, oUshr, oRem, oDiv, oMx, oMn, oI2l, oLcmp, oDup, oDup2, oDupX1, oPop, bIc, bI0, bNul, getI, getR, putI, putZ, putR, aLen, aldI, aldZ, aldJ, aldR, astI, astZ, astJ, astR, nwO, nwA, gsT, oObj, oCpy, oCln, oCst, rtI, rtZ, rtR, rtV, thr, call, callH, ac_hsel, ac_as, ac_rs, ac_cs, ac_rcv, List.map_cons, List.map_nil, List.length_cons, List.length_nil, List.replicate, List.append_nil, List.cons_append, List.nil_append, List.getElem?_cons_zero, List.getElem?_cons_succ, List.set, Nat.zero_add, Nat.add_zero, Nat.le_refl, Nat.reduceAdd, Nat.reduceSub, Nat.reduceLeDiff, Int.reduceLT, Int.reduceLE, Int.reduceNeg, Int.reduceEq, true_and, and_true, true_or, or_true, not_true_eq_false, not_false_eq_true, false_implies, true_implies, implies_true, reduceIte, and_self, Int.reduceAdd, Int.reduceMul, Int.reduceSub, eq_self, Int.add_zero, Int.zero_add, String.reduceEq, Nat.zero_le, Option.some.injEq, Sum.inl.injEq, Sum.inr.injEq, reduceCtorEq, Int.reduceToNat, Option.toList_some, Option.toList_none, ac_cs, ac_c10, ac_c11, ac_c12, ac_c13, ac_c14, ac_c15, ac_c16, ac_c17, sc_E, sh_E, sc_I, sh_I, sc_II, sh_II, sc_III, sh_III, sc_R, sh_R, sc_RI, sh_RI, sc_RII, sh_RII, sc_RIII, sh_RIII, sc_RIIII, sh_RIIII, sc_RR, sh_RR, sc_RRI, sh_RRI, sc_RRR, sh_RRR, sc_RIR, sh_RIR, sc_RIRI, sh_RIRI, sc_RRII, sh_RRII, sc_RRIII, sh_RRIII, sc_RIIRR, sh_RIIRR, sc_RIIIRR, sh_RIIIRR, sc_RIIR, sh_RIIR, sc_RRIIR, sh_RRIIR, sc_RRIIIR, sh_RRIIIR, sc_RRIIIIR, sh_RRIIIIR, sc_RRIR, sh_RRIR]
      exact ⟨60, by omega, 0, by omega, by omega, hx, ⟨Decidable.not_not.mp e, e2⟩, rfl, rfl, rfl, rfl⟩
    · rintro v h' ⟨hx, rfl⟩
      simp only [b01_0, ac_ent, ldI, ldR, stI, stR, inc, cI, cJ, cN, bop, oAdd, oSub, oMul, oAnd, oOr, oXor, oShl, oShr, oUshr, oRem, oDiv, oMx, oMn, oI2l, oLcmp, oDup, oDup2, oDupX1, oPop, bIc, bI0, bNul, getI, getR, putI, putZ, putR, aLen, aldI, aldZ, aldJ, aldR, astI, astZ, astJ, astR, nwO, nwA, gsT, oObj, oCpy, oCln, oCst, rtI, rtZ, rtR, rtV, thr, call, callH, ac_hsel, ac_as, ac_rs, ac_cs, ac_rcv, List.map_cons, List.map_nil, List.length_cons, List.length_nil, List.replicate, List.append_nil, List.cons_append, List.nil_append, List.getElem?_cons_zero, List.getElem?_cons_succ, List.set, Nat.zero_add, Nat.add_zero, Nat.le_refl, Nat.reduceAdd, Nat.reduceSub, Nat.reduceLeDiff, Int.reduceLT, Int.reduceLE, Int.reduceNeg, Int.reduceEq, true_and, and_true, true_or, or_true, not_true_eq_false, not_false_eq_true, false_implies, true_implies, implies_true, reduceIte, and_self, Int.reduceAdd, Int.reduceMul, Int.reduceSub, eq_self, Int.add_zero, Int.zero_add, String.reduceEq, Nat.zero_le, Option.some.injEq, Sum.inl.injEq, Sum.inr.injEq, reduceCtorEq, Int.reduceToNat, Option.toList_some, Option.toList_none, ac_cs, ac_c10, ac_c11, ac_c12, ac_c13, ac_c14, ac_c15, ac_c16, ac_c17, sc_E, sh_E, sc_I, sh_I, sc_II, sh_II, sc_III, sh_III, sc_R, sh_R, sc_RI, sh_RI, sc_RII, sh_RII, sc_RIII, sh_RIII, sc_RIIII, sh_RIIII, sc_RR, sh_RR, sc_RRI, sh_RRI, sc_RRR, sh_RRR, sc_RIR, sh_RIR, sc_RIRI, sh_RIRI, sc_RRII, sh_RRII, sc_RRIII, sh_RRIII, sc_RIIRR, sh_RIIRR, sc_RIIIRR, sh_RIIIRR, sc_RIIR, sh_RIIR, sc_RRIIR, sh_RRIIR, sc_RRIIIR, sh_RRIIIR, sc_RRIIIIR, sh_RRIIIIR, sc_RRIR, sh_RRIR]
      exact OK_e hx (mt_T hM) (by decide) fun s hT hS => by rw [cdRanked, if_pos (by have := Decidable.not_not.mp e; rw [hT.2.2.2.1.1] at this; exact this), if_neg e2]
  | 1, hJ =>
    obtain ⟨o, o1, hm, hx, hd, rfl, rfl, rfl, rfl⟩ := hJ
    have z25 : tu T 0 0 0 25 = T 25 := tu_k (by decide)
    have hIx : MI (tu T 0 0 0) := MI_sc scr_0 hI
    have rk0 : ∀ i, rkT (tu T 0 0 0) i = rkT T i := fun i => by
      have : ∀ n, cnT (tu T 0 0 0) i n = cnT T i n := by
        intro n
        induction n with
        | zero => rfl
        | succ n ih => rw [cnT, cnT, ih]; unfold ahT; simp only [tu_k, tu_s, ne_eq, Nat.reduceEqDiff, not_false_eq_true]
      unfold rkT
      rw [this]
      simp only [tu_k, tu_s, ne_eq, Nat.reduceEqDiff, not_false_eq_true]
    have nxt : o < T 25 0 → ∀ d2 : Int, d2 = (if rpT T d kk o = true then (o : Int) else lst (rpT T d kk) o) → ∃ m', m' < mm ∧ ivX9_ranked m d kk h T 1 m' [some (.inr (.inl m)), some (.inl d), some (.inl kk), some (.inl d2), some (.inl (wr ((o : Int) + 1)))] [] g 0 0 := by
      intro q d2 hd2
      refine ⟨mm - 1, by omega, o + 1, by omega, by omega, hx, hd, ?_, rfl, rfl, rfl⟩
      rw [lst, ← hd2, wr_of (by omega) (by omega)]
      rfl
    simp only [spX9_ranked, vcX9_ranked, mX9_ranked, spX9_isDungeon, spX9_holds, spX9_rankOf, ac_ent, ldI, ldR, stI, stR, inc, cI, cJ, cN, bop, oAdd, oSub, oMul, oAnd, oOr, oXor, oShl, oShr, oUshr, oRem, oDiv, oMx, oMn, oI2l, oLcmp, oDup, oDup2, oDupX1, oPop, bIc, bI0, bNul, getI, getR, putI, putZ, putR, aLen, aldI, aldZ, aldJ, aldR, astI, astZ, astJ, astR, nwO, nwA, gsT, oObj, oCpy, oCln, oCst, rtI, rtZ, rtR, rtV, thr, call, callH, ac_hsel, ac_as, ac_rs, ac_cs, ac_rcv, List.map_cons, List.map_nil, List.length_cons, List.length_nil, List.replicate, List.append_nil, List.cons_append, List.nil_append, List.getElem?_cons_zero, List.getElem?_cons_succ, List.set, Nat.zero_add, Nat.add_zero, Nat.le_refl, Nat.reduceAdd, Nat.reduceSub, Nat.reduceLeDiff, Int.reduceLT, Int.reduceLE, Int.reduceNeg, Int.reduceEq, true_and, and_true, true_or, or_true, not_true_eq_false, not_false_eq_true, false_implies, true_implies, implies_true, reduceIte, and_self, Int.reduceAdd, Int.reduceMul, Int.reduceSub, eq_self, Int.add_zero, Int.zero_add, String.reduceEq, Nat.zero_le, Option.some.injEq, Sum.inl.injEq, Sum.inr.injEq, reduceCtorEq, Int.reduceToNat, Option.toList_some, Option.toList_none, ac_cs, ac_c10, ac_c11, ac_c12, ac_c13, ac_c14, ac_c15, ac_c16, ac_c17, sc_E, sh_E, sc_I, sh_I, sc_II, sh_II, sc_III, sh_III, sc_R, sh_R, sc_RI, sh_RI, sc_RII, sh_RII, sc_RIII, sh_RIII, sc_RIIII, sh_RIIII, sc_RR, sh_RR, sc_RRI, sh_RRI, sc_RRR, sh_RRR, sc_RIR, sh_RIR, sc_RIRI, sh_RIRI, sc_RRII, sh_RRII, sc_RRIII, sh_RRIII, sc_RIIRR, sh_RIIRR, sc_RIIIRR, sh_RIIIRR, sc_RIIR, sh_RIIR, sc_RRIIR, sh_RRIIR, sc_RRIIIR, sh_RRIIIR, sc_RRIIIIR, sh_RRIIIIR, sc_RRIR, sh_RRIR, mt_k hx, mr_25 hx, mr_30 hx, mk_30 hx, ml_30 hx, mr_31 hx, mk_31 hx, ml_31 hx, mt_K hx, mt_T hx, hIx, z25, tu_k, tu_s, ne_eq, Nat.reduceEqDiff, not_false_eq_true]
    refine ⟨fun q => ?_, fun q => ⟨⟨by omega, by omega⟩, fun e => ⟨⟨by omega, by omega⟩, fun e2 => ⟨⟨by omega, by omega⟩, ?_⟩, fun e2 => ?_⟩, fun e => ?_⟩⟩
    · have eo : o = (T 25 0).toNat := by omega
      refine OK_r hx (mt_T hM) fun s hT hS => ⟨?_, ?_⟩
      · rw [cdRanked, if_pos (by rw [← hT.2.2.2.1.1]; exact hd.1), if_pos hd.2]
      · rw [eo]; exact TS_ranked hT hS
    · rintro v h' ⟨rfl, rfl⟩
      rw [rk0]
      simp only [ac_ent, ldI, ldR, stI, stR, inc, cI, cJ, cN, bop, oAdd, oSub, oMul, oAnd, oOr, oXor, oShl, oShr, oUshr, oRem, oDiv, oMx, oMn, oI2l, oLcmp, oDup, oDup2, oDupX1, oPop, bIc, bI0, bNul, getI, getR, putI, putZ, putR, aLen, aldI, aldZ, aldJ, aldR, astI, astZ, astJ, astR, nwO, nwA, gsT, oObj, oCpy, oCln, oCst, rtI, rtZ, rtR, rtV, thr, call, callH, ac_hsel, ac_as, ac_rs, ac_cs, ac_rcv, List.map_cons, List.map_nil, List.length_cons, List.length_nil, List.replicate, List.append_nil, List.cons_append, List.nil_append, List.getElem?_cons_zero, List.getElem?_cons_succ, List.set, Nat.zero_add, Nat.add_zero, Nat.le_refl, Nat.reduceAdd, Nat.reduceSub, Nat.reduceLeDiff, Int.reduceLT, Int.reduceLE, Int.reduceNeg, Int.reduceEq, true_and, and_true, true_or, or_true, not_true_eq_false, not_false_eq_true, false_implies, true_implies, implies_true, reduceIte, and_self, Int.reduceAdd, Int.reduceMul, Int.reduceSub, eq_self, Int.add_zero, Int.zero_add, String.reduceEq, Nat.zero_le, Option.some.injEq, Sum.inl.injEq, Sum.inr.injEq, reduceCtorEq, Int.reduceToNat, Option.toList_some, Option.toList_none, ac_cs, ac_c10, ac_c11, ac_c12, ac_c13, ac_c14, ac_c15, ac_c16, ac_c17, sc_E, sh_E, sc_I, sh_I, sc_II, sh_II, sc_III, sh_III, sc_R, sh_R, sc_RI, sh_RI, sc_RII, sh_RII, sc_RIII, sh_RIII, sc_RIIII, sh_RIIII, sc_RR, sh_RR, sc_RRI, sh_RRI, sc_RRR, sh_RRR, sc_RIR, sh_RIR, sc_RIRI, sh_RIRI, sc_RRII, sh_RRII, sc_RRIII, sh_RRIII, sc_RIIRR, sh_RIIRR, sc_RIIIRR, sh_RIIIRR, sc_RIIR, sh_RIIR, sc_RRIIR, sh_RRIIR, sc_RRIIIR, sh_RRIIIR, sc_RRIIIIR, sh_RRIIIIR, sc_RRIR, sh_RRIR]
      exact ⟨fun e3 => nxt (by omega) _ (by rw [if_pos (show rpT T d kk o = true from decide_eq_true ⟨⟨e, e2⟩, e3⟩)]), fun e3 => nxt (by omega) _ (by rw [if_neg (fun w => e3 (of_decide_eq_true w).2)])⟩
    · exact nxt (by omega) _ (by rw [if_neg (fun w => e2 (of_decide_eq_true w).1.2)])
    · exact nxt (by omega) _ (by rw [if_neg (fun w => e (of_decide_eq_true w).1.1)])
  | j + 2, hJ => exact hJ.elim
def glT (T : mT) (p : Int) : Nat → Int
  | 0 => 0
  | n + 1 => if T 26 n = p ∧ rkT T n = 0 then wr (glT T p n + T 29 n) else glT T p n
theorem glT_r (T : mT) (p : Int) : ∀ n, -2147483648 ≤ glT T p n ∧ glT T p n < 2147483648
  | 0 => by simp [glT]
  | n + 1 => by
    have := glT_r T p n
    rw [glT]
    split
    · have := ac_wrr (glT T p n + T 29 n)
      exact ⟨this.1, by have := this.2; omega⟩
    · exact this
theorem TS_gl {T : mT} {s : sS} {p : Int} (hT : TS T s) : ∀ n : Nat, (n : Int) ≤ T 25 0 → glT T p n = glS s p n
  | 0, _ => rfl
  | n + 1, hn => by
    obtain ⟨a1, a2, a3, a4, a5, a6⟩ := TS_rn hT (r := n) (by omega) (by omega)
    rw [glT, glS, TS_gl hT n (by omega), a2, a4, TS_rk hT (by omega) (by omega), vlRank]
    by_cases q : s 24 n 0 = -1
    · simp only [q, reduceIte, and_true]
    · simp [q]
def spX9_glory : ac_Sp := sc_RI (fun m p h => MW h m) (fun m p h v h' => OKm m h h' v (cdGlory p) (vlGlory p) id) (fun _ _ _ _ _ => False)
def ivX9_glory (m p : Int) (h : ac_H) (T : mT) : Nat → Nat → ac_S := fun j mm => match j with
  | 0 => fun L S g k z => mm = 1000 ∧ ent0 [some (.inr (.inl m)), some (.inl p), none, none] h L S g k z
  | 1 => fun L S g k z => ∃ o : Nat, (o : Int) ≤ T 25 0 ∧ mm + o = 60 ∧ MT h g m (tu T 0 0 0) ∧ (0 ≤ p ∧ p < 8) ∧ L = [some (.inr (.inl m)), some (.inl p), some (.inl (glT T p o)), some (.inl o)] ∧ S = [] ∧ k = 0 ∧ z = 0
  | _ => fun _ _ _ _ _ => False
set_option maxRecDepth 100000 in
set_option maxHeartbeats 4000000 in
theorem mtX9_glory {G : ac_G} {l : Launch} : ac_Met G l yX9_glory mX9_glory 2 45 0 0 spX9_glory := by
  refine ac_meth (pcs := pcX9_glory) (B := fun P X J j => vcX9_glory spX9_isPlayer spX9_holds spX9_rankOf P X J j) (by decide) rfl rfl rfl (fun P X J hJ j => sdX9_glory mtX9_isPlayer mtX9_holds mtX9_rankOf P X J hJ j) (hp_RI (by decide)) fun As h hp => ?_
  obtain ⟨m, p, rfl, hp⟩ := sh_RI_inv hp
  obtain ⟨T, hM, hI⟩ := MW_I hp
  have hI5 := hI.2.2.2.2.1
  refine ⟨ivX9_glory m p h T, 1000, ⟨rfl, rfl, rfl, rfl, rfl, rfl⟩, fun j mm L S g k z hJ => ?_⟩
  match j, hJ with
  | 0, hJ =>
    obtain ⟨hm, rfl, rfl, rfl, rfl, rfl⟩ := hJ
    simp only [spX9_glory, vcX9_glory, mX9_glory, spX9_isPlayer, spX9_holds, spX9_rankOf, ac_ent, ldI, ldR, stI, stR, inc, cI, cJ, cN, bop, oAdd, oSub, oMul, oAnd, oOr, oXor, oShl, oShr, oUshr, oRem, oDiv, oMx, oMn, oI2l, oLcmp, oDup, oDup2, oDupX1, oPop, bIc, bI0, bNul, getI, getR, putI, putZ, putR, aLen, aldI, aldZ, aldJ, aldR, astI, astZ, astJ, astR, nwO, nwA, gsT, oObj, oCpy, oCln, oCst, rtI, rtZ, rtR, rtV, thr, call, callH, ac_hsel, ac_as, ac_rs, ac_cs, ac_rcv, List.map_cons, List.map_nil, List.length_cons, List.length_nil, List.replicate, List.append_nil, List.cons_append, List.nil_append, List.getElem?_cons_zero, List.getElem?_cons_succ, List.set, Nat.zero_add, Nat.add_zero, Nat.le_refl, Nat.reduceAdd, Nat.reduceSub, Nat.reduceLeDiff, Int.reduceLT, Int.reduceLE, Int.reduceNeg, Int.reduceEq, true_and, and_true, true_or, or_true, not_true_eq_false, not_false_eq_true, false_implies, true_implies, implies_true, reduceIte, and_self, Int.reduceAdd, Int.reduceMul, Int.reduceSub, eq_self, Int.add_zero, Int.zero_add, String.reduceEq, Nat.zero_le, Option.some.injEq, Sum.inl.injEq, Sum.inr.injEq, reduceCtorEq, Int.reduceToNat, Option.toList_some, Option.toList_none, ac_cs, ac_c10, ac_c11, ac_c12, ac_c13, ac_c14, ac_c15, ac_c16, ac_c17, sc_E, sh_E, sc_I, sh_I, sc_II, sh_II, sc_III, sh_III, sc_R, sh_R, sc_RI, sh_RI, sc_RII, sh_RII, sc_RIII, sh_RIII, sc_RIIII, sh_RIIII, sc_RR, sh_RR, sc_RRI, sh_RRI, sc_RRR, sh_RRR, sc_RIR, sh_RIR, sc_RIRI, sh_RIRI, sc_RRII, sh_RRII, sc_RRIII, sh_RRIII, sc_RIIRR, sh_RIIRR, sc_RIIIRR, sh_RIIIRR, sc_RIIR, sh_RIIR, sc_RRIIR, sh_RRIIR, sc_RRIIIR, sh_RRIIIR, sc_RRIIIIR, sh_RRIIIIR, sc_RRIR, sh_RRIR, mt_k hM, mt_K hM, mt_T hM, hI]
    rintro v h' ⟨rfl, rfl⟩
    simp only [b01_0, mt_k hM, mt_K hM, mt_T hM, ac_ent, ldI, ldR, stI, stR, inc, cI, cJ, cN, bop, oAdd, oSub, oMul, oAnd, oOr, oXor, oShl, oShr, oUshr, oRem, oDiv, oMx, oMn, oI2l, oLcmp, oDup, oDup2, oDupX1, oPop, bIc, bI0, bNul, getI, getR, putI, putZ, putR, aLen, aldI, aldZ, aldJ, aldR, astI, astZ, astJ, astR, nwO, nwA, gsT, oObj, oCpy, oCln, oCst, rtI, rtZ, rtR, rtV, thr, call, callH, ac_hsel, ac_as, ac_rs, ac_cs, ac_rcv, List.map_cons, List.map_nil, List.length_cons, List.length_nil, List.replicate, List.append_nil, List.cons_append, List.nil_append, List.getElem?_cons_zero, List.getElem?_cons_succ, List.set, Nat.zero_add, Nat.add_zero, Nat.le_refl, Nat.reduceAdd, Nat.reduceSub, Nat.reduceLeDiff, Int.reduceLT, Int.reduceLE, Int.reduceNeg, Int.reduceEq, true_and, and_true, true_or, or_true, not_true_eq_false, not_false_eq_true, false_implies, true_implies, implies_true, reduceIte, and_self, Int.reduceAdd, Int.reduceMul, Int.reduceSub, eq_self, Int.add_zero, Int.zero_add, String.reduceEq, Nat.zero_le, Option.some.injEq, Sum.inl.injEq, Sum.inr.injEq, reduceCtorEq, Int.reduceToNat, Option.toList_some, Option.toList_none, ac_cs, ac_c10, ac_c11, ac_c12, ac_c13, ac_c14, ac_c15, ac_c16, ac_c17, sc_E, sh_E, sc_I, sh_I, sc_II, sh_II, sc_III, sh_III, sc_R, sh_R, sc_RI, sh_RI, sc_RII, sh_RII, sc_RIII, sh_RIII, sc_RIIII, sh_RIIII, sc_RR, sh_RR, sc_RRI, sh_RRI, sc_RRR, sh_RRR, sc_RIR, sh_RIR, sc_RIRI, sh_RIRI, sc_RRII, sh_RRII, sc_RRIII, sh_RRIII, sc_RIIRR, sh_RIIRR, sc_RIIIRR, sh_RIIIRR, sc_RIIR, sh_RIIR, sc_RRIIR, sh_RRIIR, sc_RRIIIR, sh_RRIIIR, sc_RRIIIIR, sh_RRIIIIR, sc_RRIR, sh_RRIR]
    refine ⟨fun e => ?_, fun e => ?_⟩
    · rintro v h' ⟨hx, rfl⟩
      simp only [b01_0, ac_ent, ldI, ldR, stI, stR, inc, cI, cJ, cN, bop, oAdd, oSub, oMul, oAnd, oOr, oXor, oShl, oShr, oUshr, oRem, oDiv, oMx, oMn, oI2l, oLcmp, oDup, oDup2, oDupX1, oPop, bIc, bI0, bNul, getI, getR, putI, putZ, putR, aLen, aldI, aldZ, aldJ, aldR, astI, astZ, astJ, astR, nwO, nwA, gsT, oObj, oCpy, oCln, oCst, rtI, rtZ, rtR, rtV, thr, call, callH, ac_hsel, ac_as, ac_rs, ac_cs, ac_rcv, List.map_cons, List.map_nil, List.length_cons, List.length_nil, List.replicate, List.append_nil, List.cons_append, List.nil_append, List.getElem?_cons_zero, List.getElem?_cons_succ, List.set, Nat.zero_add, Nat.add_zero, Nat.le_refl, Nat.reduceAdd, Nat.reduceSub, Nat.reduceLeDiff, Int.reduceLT, Int.reduceLE, Int.reduceNeg, Int.reduceEq, true_and, and_true, true_or, or_true, not_true_eq_false, not_false_eq_true, false_implies, true_implies, implies_true, reduceIte, and_self, Int.reduceAdd, Int.reduceMul, Int.reduceSub, eq_self, Int.add_zero, Int.zero_add, String.reduceEq, Nat.zero_le, Option.some.injEq, Sum.inl.injEq, Sum.inr.injEq, reduceCtorEq, Int.reduceToNat, Option.toList_some, Option.toList_none, ac_cs, ac_c10, ac_c11, ac_c12, ac_c13, ac_c14, ac_c15, ac_c16, ac_c17, sc_E, sh_E, sc_I, sh_I, sc_II, sh_II, sc_III, sh_III, sc_R, sh_R, sc_RI, sh_RI, sc_RII, sh_RII, sc_RIII, sh_RIII, sc_RIIII, sh_RIIII, sc_RR, sh_RR, sc_RRI, sh_RRI, sc_RRR, sh_RRR, sc_RIR, sh_RIR, sc_RIRI, sh_RIRI, sc_RRII, sh_RRII, sc_RRIII, sh_RRIII, sc_RIIRR, sh_RIIRR, sc_RIIIRR, sh_RIIIRR, sc_RIIR, sh_RIIR, sc_RRIIR, sh_RRIIR, sc_RRIIIR, sh_RRIIIR, sc_RRIIIIR, sh_RRIIIIR, sc_RRIR, sh_RRIR]
      exact OK_e hx (mt_T hM) (by decide) fun s hT hS => if_neg e
    · rintro v h' ⟨hx, rfl⟩
      simp only [b01_0, ac_ent, ldI, ldR, stI, stR, inc, cI, cJ, cN, bop, oAdd, oSub, oMul, oAnd, oOr, oXor, oShl, oShr, oUshr, oRem, oDiv, oMx, oMn, oI2l, oLcmp, oDup, oDup2, oDupX1, oPop, bIc, bI0, bNul, getI, getR, putI, putZ, putR, aLen, aldI, aldZ, aldJ, aldR, astI, astZ, astJ, astR, nwO, nwA, gsT, oObj, oCpy, oCln, oCst, rtI, rtZ, rtR, rtV, thr, call, callH, ac_hsel, ac_as, ac_rs, ac_cs, ac_rcv, List.map_cons, List.map_nil, List.length_cons, List.length_nil, List.replicate, List.append_nil, List.cons_append, List.nil_append, List.getElem?_cons_zero, List.getElem?_cons_succ, List.set, Nat.zero_add, Nat.add_zero, Nat.le_refl, Nat.reduceAdd, Nat.reduceSub, Nat.reduceLeDiff, Int.reduceLT, Int.reduceLE, Int.reduceNeg, Int.reduceEq, true_and, and_true, true_or, or_true, not_true_eq_false, not_false_eq_true, false_implies, true_implies, implies_true, reduceIte, and_self, Int.reduceAdd, Int.reduceMul, Int.reduceSub, eq_self, Int.add_zero, Int.zero_add, String.reduceEq, Nat.zero_le, Option.some.injEq, Sum.inl.injEq, Sum.inr.injEq, reduceCtorEq, Int.reduceToNat, Option.toList_some, Option.toList_none, ac_cs, ac_c10, ac_c11, ac_c12, ac_c13, ac_c14, ac_c15, ac_c16, ac_c17, sc_E, sh_E, sc_I, sh_I, sc_II, sh_II, sc_III, sh_III, sc_R, sh_R, sc_RI, sh_RI, sc_RII, sh_RII, sc_RIII, sh_RIII, sc_RIIII, sh_RIIII, sc_RR, sh_RR, sc_RRI, sh_RRI, sc_RRR, sh_RRR, sc_RIR, sh_RIR, sc_RIRI, sh_RIRI, sc_RRII, sh_RRII, sc_RRIII, sh_RRIII, sc_RIIRR, sh_RIIRR, sc_RIIIRR, sh_RIIIRR, sc_RIIR, sh_RIIR, sc_RRIIR, sh_RRIIR, sc_RRIIIR, sh_RRIIIR, sc_RRIIIIR, sh_RRIIIIR, sc_RRIR, sh_RRIR]
      exact ⟨60, by omega, 0, by omega, by omega, hx, Decidable.not_not.mp e, rfl, rfl, rfl, rfl⟩
  | 1, hJ =>
    obtain ⟨o, o1, hm, hx, hd, rfl, rfl, rfl, rfl⟩ := hJ
    have z25 : tu T 0 0 0 25 = T 25 := tu_k (by decide)
    have hIx : MI (tu T 0 0 0) := MI_sc scr_0 hI
    have rk0 : ∀ i, rkT (tu T 0 0 0) i = rkT T i := fun i => by
      have : ∀ n, cnT (tu T 0 0 0) i n = cnT T i n := by
        intro n
        induction n with
        | zero => rfl
        | succ n ih => rw [cnT, cnT, ih]; unfold ahT; simp only [tu_k, tu_s, ne_eq, Nat.reduceEqDiff, not_false_eq_true]
      unfold rkT
      rw [this]
      simp only [tu_k, tu_s, ne_eq, Nat.reduceEqDiff, not_false_eq_true]
    have gr := glT_r T p o
    have nxt : o < T 25 0 → ∀ d2 : Int, d2 = (if T 26 o = p ∧ rkT T o = 0 then wr (glT T p o + T 29 o) else glT T p o) → ∃ m', m' < mm ∧ ivX9_glory m p h T 1 m' [some (.inr (.inl m)), some (.inl p), some (.inl d2), some (.inl (wr ((o : Int) + 1)))] [] g 0 0 := by
      intro q d2 hd2
      refine ⟨mm - 1, by omega, o + 1, by omega, by omega, hx, hd, ?_, rfl, rfl, rfl⟩
      rw [glT, ← hd2, wr_of (z := (o : Int) + 1) (by omega) (by omega)]
      rfl
    simp only [spX9_glory, vcX9_glory, mX9_glory, spX9_isPlayer, spX9_holds, spX9_rankOf, ac_ent, ldI, ldR, stI, stR, inc, cI, cJ, cN, bop, oAdd, oSub, oMul, oAnd, oOr, oXor, oShl, oShr, oUshr, oRem, oDiv, oMx, oMn, oI2l, oLcmp, oDup, oDup2, oDupX1, oPop, bIc, bI0, bNul, getI, getR, putI, putZ, putR, aLen, aldI, aldZ, aldJ, aldR, astI, astZ, astJ, astR, nwO, nwA, gsT, oObj, oCpy, oCln, oCst, rtI, rtZ, rtR, rtV, thr, call, callH, ac_hsel, ac_as, ac_rs, ac_cs, ac_rcv, List.map_cons, List.map_nil, List.length_cons, List.length_nil, List.replicate, List.append_nil, List.cons_append, List.nil_append, List.getElem?_cons_zero, List.getElem?_cons_succ, List.set, Nat.zero_add, Nat.add_zero, Nat.le_refl, Nat.reduceAdd, Nat.reduceSub, Nat.reduceLeDiff, Int.reduceLT, Int.reduceLE, Int.reduceNeg, Int.reduceEq, true_and, and_true, true_or, or_true, not_true_eq_false, not_false_eq_true, false_implies, true_implies, implies_true, reduceIte, and_self, Int.reduceAdd, Int.reduceMul, Int.reduceSub, eq_self, Int.add_zero, Int.zero_add, String.reduceEq, Nat.zero_le, Option.some.injEq, Sum.inl.injEq, Sum.inr.injEq, reduceCtorEq, Int.reduceToNat, Option.toList_some, Option.toList_none, ac_cs, ac_c10, ac_c11, ac_c12, ac_c13, ac_c14, ac_c15, ac_c16, ac_c17, sc_E, sh_E, sc_I, sh_I, sc_II, sh_II, sc_III, sh_III, sc_R, sh_R, sc_RI, sh_RI, sc_RII, sh_RII, sc_RIII, sh_RIII, sc_RIIII, sh_RIIII, sc_RR, sh_RR, sc_RRI, sh_RRI, sc_RRR, sh_RRR, sc_RIR, sh_RIR, sc_RIRI, sh_RIRI, sc_RRII, sh_RRII, sc_RRIII, sh_RRIII, sc_RIIRR, sh_RIIRR, sc_RIIIRR, sh_RIIIRR, sc_RIIR, sh_RIIR, sc_RRIIR, sh_RRIIR, sc_RRIIIR, sh_RRIIIR, sc_RRIIIIR, sh_RRIIIIR, sc_RRIR, sh_RRIR, mt_k hx, mr_25 hx, mr_26 hx, mk_26 hx, ml_26 hx, mr_29 hx, mk_29 hx, ml_29 hx, mt_K hx, mt_T hx, hIx, z25, tu_k, tu_s, ne_eq, Nat.reduceEqDiff, not_false_eq_true, Int.add_zero]
    rw [wr_of gr.1 gr.2]
    refine ⟨fun q => ?_, fun q => ⟨⟨by omega, by omega⟩, fun e => ⟨⟨by omega, by omega⟩, ?_⟩, fun e => ?_⟩⟩
    · have eo : o = (T 25 0).toNat := by omega
      exact OK_r hx (mt_T hM) fun s hT hS => ⟨if_pos hd, by rw [TS_gl hT o o1, eo, hT.2.2.2.2.1]; rfl⟩
    · rintro v h' ⟨rfl, rfl⟩
      rw [rk0]
      simp only [mt_k hx, mr_29 hx, mk_29 hx, ml_29 hx, tu_k, tu_s, ne_eq, Nat.reduceEqDiff, not_false_eq_true, Int.add_zero, ac_ent, ldI, ldR, stI, stR, inc, cI, cJ, cN, bop, oAdd, oSub, oMul, oAnd, oOr, oXor, oShl, oShr, oUshr, oRem, oDiv, oMx, oMn, oI2l, oLcmp, oDup, oDup2, oDupX1, oPop, bIc, bI0, bNul, getI, getR, putI, putZ, putR, aLen, aldI, aldZ, aldJ, aldR, astI, astZ, astJ, astR, nwO, nwA, gsT, oObj, oCpy, oCln, oCst, rtI, rtZ, rtR, rtV, thr, call, callH, ac_hsel, ac_as, ac_rs, ac_cs, ac_rcv, List.map_cons, List.map_nil, List.length_cons, List.length_nil, List.replicate, List.append_nil, List.cons_append, List.nil_append, List.getElem?_cons_zero, List.getElem?_cons_succ, List.set, Nat.zero_add, Nat.add_zero, Nat.le_refl, Nat.reduceAdd, Nat.reduceSub, Nat.reduceLeDiff, Int.reduceLT, Int.reduceLE, Int.reduceNeg, Int.reduceEq, true_and, and_true, true_or, or_true, not_true_eq_false, not_false_eq_true, false_implies, true_implies, implies_true, reduceIte, and_self, Int.reduceAdd, Int.reduceMul, Int.reduceSub, eq_self, Int.add_zero, Int.zero_add, String.reduceEq, Nat.zero_le, Option.some.injEq, Sum.inl.injEq, Sum.inr.injEq, reduceCtorEq, Int.reduceToNat, Option.toList_some, Option.toList_none, ac_cs, ac_c10, ac_c11, ac_c12, ac_c13, ac_c14, ac_c15, ac_c16, ac_c17, sc_E, sh_E, sc_I, sh_I, sc_II, sh_II, sc_III, sh_III, sc_R, sh_R, sc_RI, sh_RI, sc_RII, sh_RII, sc_RIII, sh_RIII, sc_RIIII, sh_RIIII, sc_RR, sh_RR, sc_RRI, sh_RRI, sc_RRR, sh_RRR, sc_RIR, sh_RIR, sc_RIRI, sh_RIRI, sc_RRII, sh_RRII, sc_RRIII, sh_RRIII, sc_RIIRR, sh_RIIRR, sc_RIIIRR, sh_RIIIRR, sc_RIIR, sh_RIIR, sc_RRIIR, sh_RRIIR, sc_RRIIIR, sh_RRIIIR, sc_RRIIIIR, sh_RRIIIIR, sc_RRIR, sh_RRIR]
      rw [wr_of gr.1 gr.2]
      exact ⟨fun e3 => ⟨⟨by omega, by omega⟩, nxt (by omega) _ (by rw [if_pos ⟨e, e3⟩])⟩, fun e3 => nxt (by omega) _ (by rw [if_neg (fun w => e3 w.2)])⟩
    · exact nxt (by omega) _ (by rw [if_neg (fun w => e w.1)])
  | j + 2, hJ => exact hJ.elim
