/-! ===== the dungeon for a run ===== -/
def drD (s : sS) : Int := if tdO s then (if tdD s = -1 then (if s 11 0 0 < 20 then s 11 0 0 else -1) else tdD s) else -1
noncomputable def FDR (s : sS) : sS := if tdO s ∧ tdD s = -1 ∧ s 11 0 0 < 20 then FDun s else s
theorem FDR_y {s : sS} (h : tdO s ∧ tdD s = -1 ∧ s 11 0 0 < 20) : FDR s = FDun s ∧ drD s = s 11 0 0 := ⟨by unfold FDR; exact if_pos h, by unfold drD; rw [if_pos h.1, if_pos h.2.1, if_pos h.2.2]⟩
theorem FDR_n {s : sS} (h : ¬ (tdO s ∧ tdD s = -1 ∧ s 11 0 0 < 20)) : FDR s = s ∧ drD s = (if tdO s then tdD s else -1) := by
  refine ⟨by unfold FDR; exact if_neg h, ?_⟩
  unfold drD
  by_cases c : tdO s
  · rw [if_pos c, if_pos c]
    by_cases c2 : tdD s = -1
    · rw [if_pos c2, if_neg (fun q => h ⟨c, c2, q⟩), c2]
    · rw [if_neg c2]
  · rw [if_neg c, if_neg c]
theorem tdD_r (s : sS) : tdD s = -1 ∨ (0 ≤ tdD s ∧ tdD s < s 11 0 0) := by
  rcases fnd_cases (P := hdS s (tdR s)) (s 11 0 0).toNat with ⟨e, -⟩ | ⟨e1, e2, -⟩
  · exact Or.inl e
  · exact Or.inr ⟨e1, by unfold tdD; omega⟩
theorem new_dun {g0 g3 : ac_H} {D RA Rc b n sd : Int} (hD : ac_new g0 D) (hR : ac_new (up g0 0 D 0 22) Rc) (hB : ac_new (ac_cln (up g0 0 D 0 22) RA Rc) b) (r1 : g0 0 RA 0 = 10) (r2 : g0 1 RA 0 = 6)
    (hG : g3 = up (up (up (up (up (up (ac_cln (up g0 0 D 0 22) RA Rc) 0 b 0 15) 1 b 0 3) 303 D 0 b) 300 D 0 n) 301 D 0 sd) 302 D 0 Rc) :
    ac_new g0 Rc ∧ ac_new g0 b ∧ (∀ k y z, g0 0 y 0 ≠ 0 → g3 k y z = g0 k y z) ∧ g3 0 D 0 = 22 ∧ g3 300 D 0 = n ∧ g3 301 D 0 = sd ∧ g3 302 D 0 = Rc ∧ g3 303 D 0 = b ∧ g3 0 Rc 0 = 10 ∧ g3 1 Rc 0 = 6 ∧ (∀ i, g3 10 Rc i = g0 10 RA i) ∧ g3 0 b 0 = 15 ∧ g3 1 b 0 = 3 := by
  obtain ⟨c1, hR⟩ := new_up hR (by decide)
  have RD : RA ≠ D := new_ne hD (by rw [r1]; decide)
  have RR : RA ≠ Rc := new_ne hR (by rw [r1]; decide)
  have bR : b ≠ Rc := fun e => by
    have := hB.2 0 0
    rw [e] at this
    simp only [ac_cln, if_true] at this
    rw [up_a RD, r1] at this
    exact absurd this (by decide)
  have hB1 : ac_new (up g0 0 D 0 22) b := ⟨hB.1, fun k j => by have := hB.2 k j; simp only [ac_cln, if_neg bR] at this; exact this⟩
  obtain ⟨c2, hB2⟩ := new_up hB1 (by decide)
  have cl : ∀ k y z, y ≠ Rc → ac_cln (up g0 0 D 0 22) RA Rc k y z = up g0 0 D 0 22 k y z := fun k y z e => if_neg e
  have cR : ∀ k z, ac_cln (up g0 0 D 0 22) RA Rc k Rc z = g0 k RA z := fun k z => by show (if Rc = Rc then _ else _) = _; rw [if_pos rfl, up_a RD]
  refine ⟨hR, hB2, fun k y z hy => ?_, ?_, ?_, ?_, ?_, ?_, ?_, ?_, fun i => ?_, ?_, ?_⟩
  · have y1 := new_ne hD hy
    have y2 := new_ne hR hy
    have y3 := new_ne hB2 hy
    rw [hG, up_a y1, up_a y1, up_a y1, up_a y1, up_a y3, up_a y3, cl _ _ _ y2, up_a y1]
  · rw [hG, up_k (by decide), up_k (by decide), up_k (by decide), up_k (by decide), up_k (by decide), up_a (Ne.symm c2), cl _ _ _ (Ne.symm c1), up_self]
  · rw [hG, up_k (by decide), up_k (by decide), up_self]
  · rw [hG, up_k (by decide), up_self]
  · rw [hG, up_self]
  · rw [hG, up_k (by decide), up_k (by decide), up_k (by decide), up_self]
  · rw [hG, up_k (by decide), up_k (by decide), up_k (by decide), up_k (by decide), up_k (by decide), up_a (Ne.symm bR), cR, r1]
  · rw [hG, up_k (by decide), up_k (by decide), up_k (by decide), up_k (by decide), up_a (Ne.symm bR), up_k (by decide), cR, r2]
  · rw [hG, up_k (by decide), up_k (by decide), up_k (by decide), up_k (by decide), up_k (by decide), up_k (by decide), cR]
  · rw [hG, up_k (by decide), up_k (by decide), up_k (by decide), up_k (by decide), up_k (by decide), up_self]
  · rw [hG, up_k (by decide), up_k (by decide), up_k (by decide), up_k (by decide), up_self]
def spX8_dungeonForRun : ac_Sp := sc_R (fun x h => CW h x) (fun x h v h' => ∀ ad s, RC h x ad s → SI s → ∃ ad', RC h' x ad' (FDR s) ∧ FR h h' ad ad' ∧ (∀ y, h 0 y 0 ≠ 0 → h' 0 y 0 ≠ 0) ∧ v = some (.inr (.inl (if drD s = -1 then 0 else ad' 20 (drD s) 0)))) (fun _ _ _ _ => False)
set_option maxRecDepth 100000 in
set_option maxHeartbeats 4000000 in
theorem mtX8_dungeonForRun {G : ac_G} {l : Launch} : ac_Met G l yX8_dungeonForRun mX8_dungeonForRun 5 123 25 323 spX8_dungeonForRun := by
  refine ac_meth1 (pcs := pcX8_dungeonForRun) (B := fun P X J j => vcX8_dungeonForRun spX8_makeRulesToday spX8_hadToday spX2_init spX2_grow P X J j) (by decide) rfl rfl rfl (fun P X J hJ j => sdX8_dungeonForRun mtX8_makeRulesToday mtX8_hadToday mtX2_init mtX2_grow hvX2_init P X J hJ j) (hp_R (by decide)) fun As h hp => ?_
  obtain ⟨x, rfl, hp⟩ := sh_R_inv hp
  simp only [spX8_dungeonForRun, vcX8_dungeonForRun, mX8_dungeonForRun, spX8_makeRulesToday, spX8_hadToday, spX2_init, spX2_grow, sc_R, sh_R, ac_ent, ldI, ldR, stI, stR, inc, cI, cJ, cN, bop, oAdd, oSub, oMul, oAnd, oOr, oXor, oShl, oShr, oUshr, oRem, oDiv, oMx, oMn, oI2l, oLcmp, oDup, oDup2, oDupX1, oPop, bIc, bI0, bNul, getI, getR, putI, putZ, putR, aLen, aldI, aldZ, aldJ, aldR, astI, astZ, astJ, astR, nwO, nwA, gsT, oObj, oCpy, oCln, oCst, rtI, rtZ, rtR, rtV, thr, call, callH, ac_hsel, ac_as, ac_rs, ac_cs, ac_rcv, List.map_cons, List.map_nil, List.length_cons, List.length_nil, List.replicate, List.append_nil, List.cons_append, List.nil_append, List.getElem?_cons_zero, List.getElem?_cons_succ, List.set, Nat.zero_add, Nat.add_zero, Nat.le_refl, Nat.reduceAdd, Nat.reduceSub, Nat.reduceLeDiff, Int.reduceLT, Int.reduceLE, Int.reduceNeg, Int.reduceEq, true_and, and_true, true_or, or_true, not_true_eq_false, not_false_eq_true, false_implies, true_implies, implies_true, reduceIte, and_self, Int.reduceAdd, Int.reduceMul, Int.reduceSub, eq_self, Int.add_zero, Int.zero_add, String.reduceEq, Nat.zero_le, Option.some.injEq, Sum.inl.injEq, Sum.inr.injEq, reduceCtorEq, Int.reduceToNat, Option.toList_some, Option.toList_none, ac_cs, ac_c10, ac_c11, ac_c12, ac_c13, ac_c14, ac_c15, ac_c16, ac_c17, sc_E, sh_E, sc_I, sh_I, sc_II, sh_II, sc_III, sh_III, sc_R, sh_R, sc_RI, sh_RI, sc_RII, sh_RII, sc_RIII, sh_RIII, sc_RIIII, sh_RIIII, sc_RR, sh_RR, sc_RRI, sh_RRI, sc_RRR, sh_RRR, sc_RIR, sh_RIR, sc_RIRI, sh_RIRI, sc_RRII, sh_RRII, sc_RRIII, sh_RRIII, sc_RIIRR, sh_RIIRR, sc_RIIIRR, sh_RIIIRR, sc_RIIR, sh_RIIR, sc_RRIIR, sh_RRIIR, sc_RRIIIR, sh_RRIIIR, sc_RRIIIIR, sh_RRIIIIR, sc_RRIR, sh_RRIR]
  have hC : CW h x := hp
  obtain ⟨ad, s, hR, hS⟩ := hp
  have h1 : h 0 x 0 = 28 := hR.2.1.2.2.1
  simp only [h1, hC, ac_ent, ldI, ldR, stI, stR, inc, cI, cJ, cN, bop, oAdd, oSub, oMul, oAnd, oOr, oXor, oShl, oShr, oUshr, oRem, oDiv, oMx, oMn, oI2l, oLcmp, oDup, oDup2, oDupX1, oPop, bIc, bI0, bNul, getI, getR, putI, putZ, putR, aLen, aldI, aldZ, aldJ, aldR, astI, astZ, astJ, astR, nwO, nwA, gsT, oObj, oCpy, oCln, oCst, rtI, rtZ, rtR, rtV, thr, call, callH, ac_hsel, ac_as, ac_rs, ac_cs, ac_rcv, List.map_cons, List.map_nil, List.length_cons, List.length_nil, List.replicate, List.append_nil, List.cons_append, List.nil_append, List.getElem?_cons_zero, List.getElem?_cons_succ, List.set, Nat.zero_add, Nat.add_zero, Nat.le_refl, Nat.reduceAdd, Nat.reduceSub, Nat.reduceLeDiff, Int.reduceLT, Int.reduceLE, Int.reduceNeg, Int.reduceEq, true_and, and_true, true_or, or_true, not_true_eq_false, not_false_eq_true, false_implies, true_implies, implies_true, reduceIte, and_self, Int.reduceAdd, Int.reduceMul, Int.reduceSub, eq_self, Int.add_zero, Int.zero_add, String.reduceEq, Nat.zero_le, Option.some.injEq, Sum.inl.injEq, Sum.inr.injEq, reduceCtorEq, Int.reduceToNat, Option.toList_some, Option.toList_none, ac_cs, ac_c10, ac_c11, ac_c12, ac_c13, ac_c14, ac_c15, ac_c16, ac_c17, sc_E, sh_E, sc_I, sh_I, sc_II, sh_II, sc_III, sh_III, sc_R, sh_R, sc_RI, sh_RI, sc_RII, sh_RII, sc_RIII, sh_RIII, sc_RIIII, sh_RIIII, sc_RR, sh_RR, sc_RRI, sh_RRI, sc_RRR, sh_RRR, sc_RIR, sh_RIR, sc_RIRI, sh_RIRI, sc_RRII, sh_RRII, sc_RRIII, sh_RRIII, sc_RIIRR, sh_RIIRR, sc_RIIIRR, sh_RIIIRR, sc_RIIR, sh_RIIR, sc_RRIIR, sh_RRIIR, sc_RRIIIR, sh_RRIIIR, sc_RRIIIIR, sh_RRIIIIR, sc_RRIR, sh_RRIR]
  rintro v h' (⟨c0, rfl, rfl⟩ | ⟨c0, n, hn, ⟨c1, rfl, rfl⟩ | ⟨c1, rfl, rfl⟩⟩)
  · simp only [ac_ent, ldI, ldR, stI, stR, inc, cI, cJ, cN, bop, oAdd, oSub, oMul, oAnd, oOr, oXor, oShl, oShr, oUshr, oRem, oDiv, oMx, oMn, oI2l, oLcmp, oDup, oDup2, oDupX1, oPop, bIc, bI0, bNul, getI, getR, putI, putZ, putR, aLen, aldI, aldZ, aldJ, aldR, astI, astZ, astJ, astR, nwO, nwA, gsT, oObj, oCpy, oCln, oCst, rtI, rtZ, rtR, rtV, thr, call, callH, ac_hsel, ac_as, ac_rs, ac_cs, ac_rcv, List.map_cons, List.map_nil, List.length_cons, List.length_nil, List.replicate, List.append_nil, List.cons_append, List.nil_append, List.getElem?_cons_zero, List.getElem?_cons_succ, List.set, Nat.zero_add, Nat.add_zero, Nat.le_refl, Nat.reduceAdd, Nat.reduceSub, Nat.reduceLeDiff, Int.reduceLT, Int.reduceLE, Int.reduceNeg, Int.reduceEq, true_and, and_true, true_or, or_true, not_true_eq_false, not_false_eq_true, false_implies, true_implies, implies_true, reduceIte, and_self, Int.reduceAdd, Int.reduceMul, Int.reduceSub, eq_self, Int.add_zero, Int.zero_add, String.reduceEq, Nat.zero_le, Option.some.injEq, Sum.inl.injEq, Sum.inr.injEq, reduceCtorEq, Int.reduceToNat, Option.toList_some, Option.toList_none, ac_cs, ac_c10, ac_c11, ac_c12, ac_c13, ac_c14, ac_c15, ac_c16, ac_c17, sc_E, sh_E, sc_I, sh_I, sc_II, sh_II, sc_III, sh_III, sc_R, sh_R, sc_RI, sh_RI, sc_RII, sh_RII, sc_RIII, sh_RIII, sc_RIIII, sh_RIIII, sc_RR, sh_RR, sc_RRI, sh_RRI, sc_RRR, sh_RRR, sc_RIR, sh_RIR, sc_RIRI, sh_RIRI, sc_RRII, sh_RRII, sc_RRIII, sh_RRIII, sc_RIIRR, sh_RIIRR, sc_RIIIRR, sh_RIIIRR, sc_RIIR, sh_RIIR, sc_RRIIR, sh_RRIIR, sc_RRIIIR, sh_RRIIIR, sc_RRIIIIR, sh_RRIIIIR, sc_RRIR, sh_RRIR]
    intro ad s hR hS
    have := (RC_90 hR).1
    have no : ¬ tdO s := fun q => q.1 (by omega)
    obtain ⟨e1, e2⟩ := FDR_n (s := s) (fun q => no q.1)
    rw [if_neg no] at e2
    rw [e1, e2]
    exact ⟨ad, hR, FR_rf _ _, fun y hy => hy, rfl⟩
  · obtain ⟨m1, m2, m3, m4⟩ := mk_x (set := h 903 x 0) (n := n) hR
    have t907 : mkH h (h 900 x 0) (h 903 x 0) n 907 x 0 = h 907 x 0 := by simp only [mkH, orH_k, up_k, ast_k, up_kf, ast_kf, ne_eq, Nat.reduceEqDiff, not_false_eq_true]
    simp only [m1, CW_mk hC, ac_ent, ldI, ldR, stI, stR, inc, cI, cJ, cN, bop, oAdd, oSub, oMul, oAnd, oOr, oXor, oShl, oShr, oUshr, oRem, oDiv, oMx, oMn, oI2l, oLcmp, oDup, oDup2, oDupX1, oPop, bIc, bI0, bNul, getI, getR, putI, putZ, putR, aLen, aldI, aldZ, aldJ, aldR, astI, astZ, astJ, astR, nwO, nwA, gsT, oObj, oCpy, oCln, oCst, rtI, rtZ, rtR, rtV, thr, call, callH, ac_hsel, ac_as, ac_rs, ac_cs, ac_rcv, List.map_cons, List.map_nil, List.length_cons, List.length_nil, List.replicate, List.append_nil, List.cons_append, List.nil_append, List.getElem?_cons_zero, List.getElem?_cons_succ, List.set, Nat.zero_add, Nat.add_zero, Nat.le_refl, Nat.reduceAdd, Nat.reduceSub, Nat.reduceLeDiff, Int.reduceLT, Int.reduceLE, Int.reduceNeg, Int.reduceEq, true_and, and_true, true_or, or_true, not_true_eq_false, not_false_eq_true, false_implies, true_implies, implies_true, reduceIte, and_self, Int.reduceAdd, Int.reduceMul, Int.reduceSub, eq_self, Int.add_zero, Int.zero_add, String.reduceEq, Nat.zero_le, Option.some.injEq, Sum.inl.injEq, Sum.inr.injEq, reduceCtorEq, Int.reduceToNat, Option.toList_some, Option.toList_none, ac_cs, ac_c10, ac_c11, ac_c12, ac_c13, ac_c14, ac_c15, ac_c16, ac_c17, sc_E, sh_E, sc_I, sh_I, sc_II, sh_II, sc_III, sh_III, sc_R, sh_R, sc_RI, sh_RI, sc_RII, sh_RII, sc_RIII, sh_RIII, sc_RIIII, sh_RIIII, sc_RR, sh_RR, sc_RRI, sh_RRI, sc_RRR, sh_RRR, sc_RIR, sh_RIR, sc_RIRI, sh_RIRI, sc_RRII, sh_RRII, sc_RRIII, sh_RRIII, sc_RIIRR, sh_RIIRR, sc_RIIIRR, sh_RIIIRR, sc_RIIR, sh_RIIR, sc_RRIIR, sh_RRIIR, sc_RRIIIR, sh_RRIIIR, sc_RRIIIIR, sh_RRIIIIR, sc_RRIR, sh_RRIR]
    rintro v g ⟨rfl, rfl⟩
    simp only [ac_ent, ldI, ldR, stI, stR, inc, cI, cJ, cN, bop, oAdd, oSub, oMul, oAnd, oOr, oXor, oShl, oShr, oUshr, oRem, oDiv, oMx, oMn, oI2l, oLcmp, oDup, oDup2, oDupX1, oPop, bIc, bI0, bNul, getI, getR, putI, putZ, putR, aLen, aldI, aldZ, aldJ, aldR, astI, astZ, astJ, astR, nwO, nwA, gsT, oObj, oCpy, oCln, oCst, rtI, rtZ, rtR, rtV, thr, call, callH, ac_hsel, ac_as, ac_rs, ac_cs, ac_rcv, List.map_cons, List.map_nil, List.length_cons, List.length_nil, List.replicate, List.append_nil, List.cons_append, List.nil_append, List.getElem?_cons_zero, List.getElem?_cons_succ, List.set, Nat.zero_add, Nat.add_zero, Nat.le_refl, Nat.reduceAdd, Nat.reduceSub, Nat.reduceLeDiff, Int.reduceLT, Int.reduceLE, Int.reduceNeg, Int.reduceEq, true_and, and_true, true_or, or_true, not_true_eq_false, not_false_eq_true, false_implies, true_implies, implies_true, reduceIte, and_self, Int.reduceAdd, Int.reduceMul, Int.reduceSub, eq_self, Int.add_zero, Int.zero_add, String.reduceEq, Nat.zero_le, Option.some.injEq, Sum.inl.injEq, Sum.inr.injEq, reduceCtorEq, Int.reduceToNat, Option.toList_some, Option.toList_none, ac_cs, ac_c10, ac_c11, ac_c12, ac_c13, ac_c14, ac_c15, ac_c16, ac_c17, sc_E, sh_E, sc_I, sh_I, sc_II, sh_II, sc_III, sh_III, sc_R, sh_R, sc_RI, sh_RI, sc_RII, sh_RII, sc_RIII, sh_RIII, sc_RIIII, sh_RIIII, sc_RR, sh_RR, sc_RRI, sh_RRI, sc_RRR, sh_RRR, sc_RIR, sh_RIR, sc_RIRI, sh_RIRI, sc_RRII, sh_RRII, sc_RRIII, sh_RRIII, sc_RIIRR, sh_RIIRR, sc_RIIIRR, sh_RIIIRR, sc_RIIR, sh_RIIR, sc_RRIIR, sh_RRIIR, sc_RRIIIR, sh_RRIIIR, sc_RRIIIIR, sh_RRIIIIR, sc_RRIR, sh_RRIR]
    by_cases q : hdF (mkH h (h 900 x 0) (h 903 x 0) n) x = -1
    · rw [if_pos q]
      refine ⟨fun _ => ⟨m1, fun q2 => ?_, fun q2 => ?_⟩, fun e => absurd rfl e⟩
      · intro ad s hR hS
        have e := RC_td hR hS hn
        have e5 := (RC_90 hR).2.2.2.2.1
        rw [t907, e5] at q2
        obtain ⟨e1, e2⟩ := FDR_n (s := s) (fun q => by omega)
        rw [e1, e2]
        have : (if tdO s then tdD s else -1) = -1 := by rw [← e, q]; split <;> rfl
        rw [this]
        exact ⟨ad, RC_mk hR, FR_mk hR, fun y hy => by simp only [mkH, orH_k, up_k, ast_k, up_kf, ast_kf, ne_eq, Nat.reduceEqDiff, not_false_eq_true]; exact hy, rfl⟩
      · have t902 : mkH h (h 900 x 0) (h 903 x 0) n 902 x 0 = h 902 x 0 := by simp only [mkH, orH_k, up_k, ast_k, up_kf, ast_kf, ne_eq, Nat.reduceEqDiff, not_false_eq_true]
        have t906 : mkH h (h 900 x 0) (h 903 x 0) n 906 x 0 = h 906 x 0 := by simp only [mkH, orH_k, up_k, ast_k, up_kf, ast_kf, ne_eq, Nat.reduceEqDiff, not_false_eq_true]
        have tb : mkH h (h 900 x 0) (h 903 x 0) n 0 (h 900 x 0) 0 = 25 := by simp only [mkH, orH_k, up_k, ast_k, up_kf, ast_kf, ne_eq, Nat.reduceEqDiff, not_false_eq_true]; rw [hR.2.1.2.2.2.1]; exact hR.2.1.2.2.2.2.2.2.2.2.2.1
        obtain ⟨f1, f2, f3, f4, f5, f6, f7, f8, f9, f10, f11, f12, f13, f14, f15, f16, f17, f18, f19, f20, f21, f22, f23, f24, -⟩ := id hR.2.1
        have tr0 : mkH h (h 900 x 0) (h 903 x 0) n 0 (h 604 (h 900 x 0) 0) 0 = 10 := by simp only [mkH, orH_k, up_k, ast_k, up_kf, ast_kf, ne_eq, Nat.reduceEqDiff, not_false_eq_true]; rw [f4, f13]; exact f18
        have tr1 : mkH h (h 900 x 0) (h 903 x 0) n 1 (h 604 (h 900 x 0) 0) 0 = 6 := by simp only [mkH, orH_k, up_k, ast_k, up_kf, ast_kf, ne_eq, Nat.reduceEqDiff, not_false_eq_true]; rw [f4, f13]; exact f19
        have th0 : mkH h (h 900 x 0) (h 903 x 0) n 0 (h 906 x 0) 0 = 14 := by simp only [mkH, orH_k, up_k, ast_k, up_kf, ast_kf, ne_eq, Nat.reduceEqDiff, not_false_eq_true]; rw [f6]; exact f22
        have th1 : mkH h (h 900 x 0) (h 903 x 0) n 1 (h 906 x 0) 0 = 20 := by simp only [mkH, orH_k, up_k, ast_k, up_kf, ast_kf, ne_eq, Nat.reduceEqDiff, not_false_eq_true]; rw [f6]; exact f23
        have hM : ∀ ad s, RC h x ad s → SI s → RC (mkH h (h 900 x 0) (h 903 x 0) n) x ad s ∧ FR h (mkH h (h 900 x 0) (h 903 x 0) n) ad ad ∧ (∀ i, 0 ≤ i → i < 6 → mkH h (h 900 x 0) (h 903 x 0) n 10 (h 604 (h 900 x 0) 0) i = tdR s i) ∧ tdO s ∧ tdD s = -1 := fun ad s hR hS => by
          have e := (RC_90 hR).1
          refine ⟨RC_mk hR, FR_mk hR, fun i i0 i1 => ?_, ⟨by omega, (RC_td0 hR hn).mp c1⟩, by rw [← RC_td hR hS hn]; exact q⟩
          rw [(mk_x (set := h 903 x 0) (n := n) hR).2.2.2 i i0 i1, RC_rls hR hS hn, (RC_90 hR).2.2.1]; rfl
        have hk : ∀ y, h 0 y 0 ≠ 0 → mkH h (h 900 x 0) (h 903 x 0) n 0 y 0 ≠ 0 := fun y hy => by simp only [mkH, orH_k, up_k, ast_k, up_kf, ast_kf, ne_eq, Nat.reduceEqDiff, not_false_eq_true]; exact hy
        have fld : ∀ ad s, RC h x ad s → SI s → h 906 x 0 = ad 6 0 0 ∧ h 907 x 0 = s 11 0 0 ∧ h 902 x 0 = s 7 0 0 := fun ad s hR hS => ⟨hR.2.1.2.2.2.2.2.1, (RC_90 hR).2.2.2.2.1, (RC_90 hR).2.1⟩
        have s11 := hS.2.2.2.2.2.2.2.2.1
        have s7 := hS.2.2.2.2.2.1
        rw [t907] at q2
        clear c1 hn m4 q
        generalize mkH h (h 900 x 0) (h 903 x 0) n = g0 at *
        intro D hD
        have xD : x ≠ D := new_ne hD (by rw [m1]; decide)
        have bD : h 900 x 0 ≠ D := new_ne hD (by rw [tb]; decide)
        have rD : h 604 (h 900 x 0) 0 ≠ D := new_ne hD (by rw [tr0]; decide)
        have E1 : up g0 0 D 0 22 0 x 0 = 28 := by rw [up_a xD, m1]
        have E2 : up g0 0 D 0 22 900 x 0 = h 900 x 0 := by rw [up_k (by decide), m2]
        have E3 : up g0 0 D 0 22 0 (h 900 x 0) 0 = 25 := by rw [up_a bD, tb]
        have E4 : up g0 0 D 0 22 604 (h 900 x 0) 0 = h 604 (h 900 x 0) 0 := by rw [up_k (by decide), m3]
        have E5 : up g0 0 D 0 22 0 (h 604 (h 900 x 0) 0) 0 = 10 := by rw [up_a rD, tr0]
        have E6 : up g0 0 D 0 22 1 (h 604 (h 900 x 0) 0) 0 = 6 := by rw [up_k (by decide), tr1]
        have E7 : up g0 0 D 0 22 907 x 0 = h 907 x 0 := by rw [up_k (by decide), t907]
        have E8 : up g0 0 D 0 22 902 x 0 = h 902 x 0 := by rw [up_k (by decide), t902]
        rw [E1, E2, E3, E4, E5, E6, E7, E8]
        refine ⟨rfl, rfl, rfl, rfl, ⟨rfl, by decide⟩, fun Rc hRc => ?_⟩
        have hD0 : up g0 0 D 0 22 0 D 0 = 22 := up_self ..
        obtain ⟨RD, -⟩ := new_up hRc (by decide)
        refine ⟨by show (if Rc = Rc then _ else _) = _; rw [if_pos rfl, E5], by decide, ⟨hD.1, by show (if D = Rc then _ else _) = _; rw [if_neg (Ne.symm RD), hD0]⟩, ?_⟩
        rintro v g3 ⟨rfl, b, hb, hG⟩
        obtain ⟨nR, nB, old3, a1, a2, a3, a4, a5, a6, a7, a8, a9, a10⟩ := new_dun hD hRc hb tr0 tr1 hG
        clear hG
        obtain ⟨y1, y2, y3⟩ := fld ad s hR hS
        obtain ⟨u1, u2, u3, u4, u5⟩ := hM ad s hR hS
        have rr := tdR_r s
        have rr2 : ∀ i, 0 ≤ i → i < 6 → rul g3 D i = tdR s i := fun i i0 i1 => by unfold rul; rw [a4, a8, u3 i i0 i1]
        simp only [ac_ent, ldI, ldR, stI, stR, inc, cI, cJ, cN, bop, oAdd, oSub, oMul, oAnd, oOr, oXor, oShl, oShr, oUshr, oRem, oDiv, oMx, oMn, oI2l, oLcmp, oDup, oDup2, oDupX1, oPop, bIc, bI0, bNul, getI, getR, putI, putZ, putR, aLen, aldI, aldZ, aldJ, aldR, astI, astZ, astJ, astR, nwO, nwA, gsT, oObj, oCpy, oCln, oCst, rtI, rtZ, rtR, rtV, thr, call, callH, ac_hsel, ac_as, ac_rs, ac_cs, ac_rcv, List.map_cons, List.map_nil, List.length_cons, List.length_nil, List.replicate, List.append_nil, List.cons_append, List.nil_append, List.getElem?_cons_zero, List.getElem?_cons_succ, List.set, Nat.zero_add, Nat.add_zero, Nat.le_refl, Nat.reduceAdd, Nat.reduceSub, Nat.reduceLeDiff, Int.reduceLT, Int.reduceLE, Int.reduceNeg, Int.reduceEq, true_and, and_true, true_or, or_true, not_true_eq_false, not_false_eq_true, false_implies, true_implies, implies_true, reduceIte, and_self, Int.reduceAdd, Int.reduceMul, Int.reduceSub, eq_self, Int.add_zero, Int.zero_add, String.reduceEq, Nat.zero_le, Option.some.injEq, Sum.inl.injEq, Sum.inr.injEq, reduceCtorEq, Int.reduceToNat, Option.toList_some, Option.toList_none, ac_cs, ac_c10, ac_c11, ac_c12, ac_c13, ac_c14, ac_c15, ac_c16, ac_c17, sc_E, sh_E, sc_I, sh_I, sc_II, sh_II, sc_III, sh_III, sc_R, sh_R, sc_RI, sh_RI, sc_RII, sh_RII, sc_RIII, sh_RIII, sc_RIIII, sh_RIIII, sc_RR, sh_RR, sc_RRI, sh_RRI, sc_RRR, sh_RRR, sc_RIR, sh_RIR, sc_RIRI, sh_RIRI, sc_RRII, sh_RRII, sc_RRIII, sh_RRIII, sc_RIIRR, sh_RIIRR, sc_RIIIRR, sh_RIIIRR, sc_RIIR, sh_RIIR, sc_RRIIR, sh_RRIIR, sc_RRIIIR, sh_RRIIIR, sc_RRIIIIR, sh_RRIIIIR, sc_RRIR, sh_RRIR]
        refine ⟨a1, ⟨⟨a1, by rw [a4]; exact a6, by rw [a4]; exact a7, ?_⟩, by rw [a3, y3]; exact s7.1, by rw [a3, y3]; omega, by rw [a5]; exact a9, by rw [a5]; exact a10⟩, ?_⟩
        · rw [rr2 0 (by omega) (by omega), rr2 1 (by omega) (by omega), rr2 2 (by omega) (by omega), rr2 3 (by omega) (by omega), rr2 4 (by omega) (by omega), rr2 5 (by omega) (by omega)]
          exact rr
        rintro v g4 ⟨rfl, hg⟩
        have old4 : ∀ k y z, g0 0 y 0 ≠ 0 → g4 k y z = g0 k y z := fun k y z hy => by
          rw [hg.1 k y z (by rw [old3 0 y 0 hy]; exact hy) (fun q => new_ne nB hy (by rw [q.2, a5])), old3 k y z hy]
        have w1 : g4 0 x 0 = 28 := by rw [old4 0 x 0 (by rw [m1]; decide), m1]
        have w2 : g4 906 x 0 = h 906 x 0 := by rw [old4 906 x 0 (by rw [m1]; decide), t906]
        have w3 : g4 907 x 0 = h 907 x 0 := by rw [old4 907 x 0 (by rw [m1]; decide), t907]
        have w4 : g4 0 (h 906 x 0) 0 = 14 := by rw [old4 0 _ 0 (by rw [th0]; decide), th0]
        have w5 : g4 1 (h 906 x 0) 0 = 20 := by rw [old4 1 _ 0 (by rw [th0]; decide), th1]
        have w6 : g4 0 D 0 = 22 := by rw [hg.1 0 D 0 (by rw [a1]; decide) (by omega)]; exact a1
        simp only [w1, w2, w3, w4, w5, w6, up_k, ast_k, up_kf, ast_kf, ne_eq, Nat.reduceEqDiff, not_false_eq_true, ac_ent, ldI, ldR, stI, stR, inc, cI, cJ, cN, bop, oAdd, oSub, oMul, oAnd, oOr, oXor, oShl, oShr, oUshr, oRem, oDiv, oMx, oMn, oI2l, oLcmp, oDup, oDup2, oDupX1, oPop, bIc, bI0, bNul, getI, getR, putI, putZ, putR, aLen, aldI, aldZ, aldJ, aldR, astI, astZ, astJ, astR, nwO, nwA, gsT, oObj, oCpy, oCln, oCst, rtI, rtZ, rtR, rtV, thr, call, callH, ac_hsel, ac_as, ac_rs, ac_cs, ac_rcv, List.map_cons, List.map_nil, List.length_cons, List.length_nil, List.replicate, List.append_nil, List.cons_append, List.nil_append, List.getElem?_cons_zero, List.getElem?_cons_succ, List.set, Nat.zero_add, Nat.add_zero, Nat.le_refl, Nat.reduceAdd, Nat.reduceSub, Nat.reduceLeDiff, Int.reduceLT, Int.reduceLE, Int.reduceNeg, Int.reduceEq, true_and, and_true, true_or, or_true, not_true_eq_false, not_false_eq_true, false_implies, true_implies, implies_true, reduceIte, and_self, Int.reduceAdd, Int.reduceMul, Int.reduceSub, eq_self, Int.add_zero, Int.zero_add, String.reduceEq, Nat.zero_le, Option.some.injEq, Sum.inl.injEq, Sum.inr.injEq, reduceCtorEq, Int.reduceToNat, Option.toList_some, Option.toList_none, ac_cs, ac_c10, ac_c11, ac_c12, ac_c13, ac_c14, ac_c15, ac_c16, ac_c17, sc_E, sh_E, sc_I, sh_I, sc_II, sh_II, sc_III, sh_III, sc_R, sh_R, sc_RI, sh_RI, sc_RII, sh_RII, sc_RIII, sh_RIII, sc_RIIII, sh_RIIII, sc_RR, sh_RR, sc_RRI, sh_RRI, sc_RRR, sh_RRR, sc_RIR, sh_RIR, sc_RIRI, sh_RIRI, sc_RRII, sh_RRII, sc_RRIII, sh_RRIII, sc_RIIRR, sh_RIIRR, sc_RIIIRR, sh_RIIIRR, sc_RIIR, sh_RIIR, sc_RRIIR, sh_RRIIR, sc_RRIIIR, sh_RRIIIR, sc_RRIIIIR, sh_RRIIIIR, sc_RRIR, sh_RRIR]
        rw [wr_of (by omega) (by omega)]
        refine ⟨⟨by omega, by omega⟩, fun ad s hR hS => ?_⟩
        obtain ⟨y1, y2, y3⟩ := fld ad s hR hS
        obtain ⟨u1, u2, u3, u4, u5⟩ := hM ad s hR hS
        obtain ⟨e1, e2⟩ := FDR_y (s := s) ⟨u4, u5, by omega⟩
        have fin := RC_dun u1 hS (by omega) hD nR nB old3 a1 (by rw [a2, y2]) (by rw [a3, y3]) a4 a5 a6 a7 (fun i i0 i1 => by rw [a8, u3 i i0 i1]) a9 a10 hg
        rw [e1, e2, y1, y2]
        refine ⟨_, fin.1, FR_tr u2 fin.2 hk, fun y hy => by rw [old4 0 y 0 (hk y hy)]; exact hk y hy, ?_⟩
        rw [if_neg (by have := hS.2.2.2.2.2.2.2.2.1; omega), adN_n.1]
    · rw [if_neg q]
      have gg : ∀ ad s, RC h x ad s → SI s → (0 ≤ tdD s ∧ tdD s < s 11 0 0) ∧ mkH h (h 900 x 0) (h 903 x 0) n 14 (mkH h (h 900 x 0) (h 903 x 0) n 906 x 0) (hdF (mkH h (h 900 x 0) (h 903 x 0) n) x) = ad 20 (tdD s) 0 ∧ 0 < ad 20 (tdD s) 0 := fun ad s hR hS => by
        have e := RC_td hR hS hn
        have td2 := (tdD_r s).resolve_left (by rw [← e]; exact q)
        have hM := RC_mk (set := h 903 x 0) (n := n) hR
        obtain ⟨x1, x2, x3, x4, -⟩ := hM.2.2.2.2.2.2.1 _ td2.1 td2.2
        rw [e, hM.2.1.2.2.2.2.2.1]
        exact ⟨td2, x2, x1⟩
      obtain ⟨y1, y2, y3⟩ := gg ad s hR hS
      refine ⟨fun e => by omega, fun _ => ?_⟩
      intro ad s hR hS
      obtain ⟨y1, y2, y3⟩ := gg ad s hR hS
      have := (RC_90 hR).1
      obtain ⟨e1, e2⟩ := FDR_n (s := s) (fun q => by omega)
      rw [if_pos ⟨by omega, (RC_td0 hR hn).mp c1⟩] at e2
      rw [e1, e2]
      refine ⟨ad, RC_mk hR, FR_mk hR, fun y hy => by simp only [mkH, orH_k, up_k, ast_k, up_kf, ast_kf, ne_eq, Nat.reduceEqDiff, not_false_eq_true]; exact hy, ?_⟩
      rw [if_neg (show ¬ tdD s = -1 by omega), y2]
  · simp only [ac_ent, ldI, ldR, stI, stR, inc, cI, cJ, cN, bop, oAdd, oSub, oMul, oAnd, oOr, oXor, oShl, oShr, oUshr, oRem, oDiv, oMx, oMn, oI2l, oLcmp, oDup, oDup2, oDupX1, oPop, bIc, bI0, bNul, getI, getR, putI, putZ, putR, aLen, aldI, aldZ, aldJ, aldR, astI, astZ, astJ, astR, nwO, nwA, gsT, oObj, oCpy, oCln, oCst, rtI, rtZ, rtR, rtV, thr, call, callH, ac_hsel, ac_as, ac_rs, ac_cs, ac_rcv, List.map_cons, List.map_nil, List.length_cons, List.length_nil, List.replicate, List.append_nil, List.cons_append, List.nil_append, List.getElem?_cons_zero, List.getElem?_cons_succ, List.set, Nat.zero_add, Nat.add_zero, Nat.le_refl, Nat.reduceAdd, Nat.reduceSub, Nat.reduceLeDiff, Int.reduceLT, Int.reduceLE, Int.reduceNeg, Int.reduceEq, true_and, and_true, true_or, or_true, not_true_eq_false, not_false_eq_true, false_implies, true_implies, implies_true, reduceIte, and_self, Int.reduceAdd, Int.reduceMul, Int.reduceSub, eq_self, Int.add_zero, Int.zero_add, String.reduceEq, Nat.zero_le, Option.some.injEq, Sum.inl.injEq, Sum.inr.injEq, reduceCtorEq, Int.reduceToNat, Option.toList_some, Option.toList_none, ac_cs, ac_c10, ac_c11, ac_c12, ac_c13, ac_c14, ac_c15, ac_c16, ac_c17, sc_E, sh_E, sc_I, sh_I, sc_II, sh_II, sc_III, sh_III, sc_R, sh_R, sc_RI, sh_RI, sc_RII, sh_RII, sc_RIII, sh_RIII, sc_RIIII, sh_RIIII, sc_RR, sh_RR, sc_RRI, sh_RRI, sc_RRR, sh_RRR, sc_RIR, sh_RIR, sc_RIRI, sh_RIRI, sc_RRII, sh_RRII, sc_RRIII, sh_RRIII, sc_RIIRR, sh_RIIRR, sc_RIIIRR, sh_RIIIRR, sc_RIIR, sh_RIIR, sc_RRIIR, sh_RRIIR, sc_RRIIIR, sh_RRIIIR, sc_RRIIIIR, sh_RRIIIIR, sc_RRIR, sh_RRIR]
    intro ad s hR hS
    have no : ¬ tdO s := fun q => c1 ((RC_td0 hR hn).mpr q.2)
    obtain ⟨e1, e2⟩ := FDR_n (s := s) (fun q => no q.1)
    rw [if_neg no] at e2
    rw [e1, e2]
    exact ⟨ad, RC_or hR, FR_or hR, fun y hy => by rw [orH_k (by decide) (by decide)]; exact hy, rfl⟩
