/-! ===== the law's head, its loop's end, its entry ===== -/
set_option maxRecDepth 100000 in
set_option maxHeartbeats 4000000 in
theorem lawc_1 {B Ln : Int} {f : Int → Int} {mm : Nat} {L : ac_L} {S : List ac_V} {h : ac_H} {k z : Nat} (hL0 : 0 ≤ Ln) (hL : Ln ≤ 2560) (hc : caseI B Ln f mm 0 0 L S h k z) : vcL_law_1 spX8_init spX9_init spL_pack spX9_pack spX9_thrown spL_change spX9_change spL_mend spX9_mend spL_setNeeds spX9_setNeeds spL_open spX9_open spL_key spX9_key spX8_wipe spX9_wipe spL_handIn spX9_handIn spL_judge spX9_judge spX8_packs spX9_packs spL_changes spX9_changes spL_isPossible spX9_isPossible spL_orderAt spX9_orderAt spL_ruleOf spX9_ruleOf spX8_today spX9_today spX8_dungeons spX9_dungeons spX8_dungeonToday spX9_dungeonToday spL_hasDoor spX9_hasDoor spL_monster spX9_monster spL_hasTreasure spX9_hasTreasure spL_stairs spX9_stairs spL_way spX9_way spL_wayByDoors spX9_wayByDoors spX8_runs spX9_runs spL_dungeonOf spX9_dungeonOf spL_verdict spX9_verdict spL_scoreOf spX9_scoreOf spL_endOf spX9_endOf spL_rank spX9_rank spL_ranked spX9_ranked spL_glory spX9_glory lawLR (fun i L S h k z => ∃ m', m' < mm ∧ ivLaw B Ln f i m' L S h k z) L S h k z := by
  obtain ⟨x, m, o, i, n, p5, p6, hi, hmm, h60, -, hI, rfl, rfl, hk, hz⟩ := hc
  obtain ⟨s1, s2, s3⟩ := LI_S hI
  simp only [vcL_law_1, s1, s2, ac_ent, ldI, ldR, stI, stR, inc, cI, cJ, cN, bop, oAdd, oSub, oMul, oAnd, oOr, oXor, oShl, oShr, oUshr, oRem, oDiv, oMx, oMn, oI2l, oLcmp, oDup, oDup2, oDupX1, oPop, bIc, bI0, bNul, getI, getR, putI, putZ, putR, aLen, aldI, aldZ, aldJ, aldR, astI, astZ, astJ, astR, nwO, nwA, gsT, oObj, oCpy, oCln, oCst, rtI, rtZ, rtR, rtV, thr, call, callH, ac_hsel, ac_as, ac_rs, ac_cs, ac_rcv, List.map_cons, List.map_nil, List.length_cons, List.length_nil, List.replicate, List.append_nil, List.cons_append, List.nil_append, List.getElem?_cons_zero, List.getElem?_cons_succ, List.set, Nat.zero_add, Nat.add_zero, Nat.le_refl, Nat.reduceAdd, Nat.reduceSub, Nat.reduceLeDiff, Int.reduceLT, Int.reduceLE, Int.reduceNeg, Int.reduceEq, true_and, and_true, true_or, or_true, not_true_eq_false, not_false_eq_true, false_implies, true_implies, implies_true, reduceIte, and_self, Int.reduceAdd, Int.reduceMul, Int.reduceSub, eq_self, Int.add_zero, Int.zero_add, String.reduceEq, Nat.zero_le, Option.some.injEq, Sum.inl.injEq, Sum.inr.injEq, reduceCtorEq, Int.reduceToNat, Option.toList_some, Option.toList_none, ac_cs, ac_c10, ac_c11, ac_c12, ac_c13, ac_c14, ac_c15, ac_c16, ac_c17, sc_E, sh_E, sc_I, sh_I, sc_II, sh_II, sc_III, sh_III, sc_R, sh_R, sc_RI, sh_RI, sc_RII, sh_RII, sc_RIII, sh_RIII, sc_RIIII, sh_RIIII, sc_RR, sh_RR, sc_RRI, sh_RRI, sc_RRR, sh_RRR, sc_RIR, sh_RIR, sc_RIRI, sh_RIRI, sc_RRII, sh_RRII, sc_RRIII, sh_RRIII, sc_RIIRR, sh_RIIRR, sc_RIIIRR, sh_RIIIRR, sc_RIIR, sh_RIIR, sc_RRIIR, sh_RRIIR, sc_RRIIIR, sh_RRIIIR, sc_RRIIIIR, sh_RRIIIIR, sc_RRIR, sh_RRIR]
  simp (disch := omega) only [wr_of]
  refine ⟨fun q => ⟨rfl, by omega, by omega⟩, fun q => ⟨by omega, ?_⟩⟩
  simp only [tsw]
  refine ⟨fun j hj _ => ⟨mm - 1, by omega, (iv_c (by omega) (by omega)).mpr ⟨by omega, x, m, o, i, n, p5, p6, hi, by omega, h60, fun _ => by omega, hI, rfl, rfl, by omega, by omega⟩⟩, fun _ => ⟨mm - 1 - 1, by omega, iv_33.mpr ⟨x, m, o, i, n, p5, p6, hi, by omega, h60, fun _ => by omega, hI, rfl, rfl, by omega, by omega⟩⟩⟩
set_option maxRecDepth 100000 in
set_option maxHeartbeats 4000000 in
theorem lawc_33 {B Ln : Int} {f : Int → Int} {mm : Nat} {L : ac_L} {S : List ac_V} {h : ac_H} {k z : Nat} (hL : Ln ≤ 2560) (hc : caseI B Ln f mm 1 2 L S h k z) : vcL_law_33 spX8_init spX9_init spL_pack spX9_pack spX9_thrown spL_change spX9_change spL_mend spX9_mend spL_setNeeds spX9_setNeeds spL_open spX9_open spL_key spX9_key spX8_wipe spX9_wipe spL_handIn spX9_handIn spL_judge spX9_judge spX8_packs spX9_packs spL_changes spX9_changes spL_isPossible spX9_isPossible spL_orderAt spX9_orderAt spL_ruleOf spX9_ruleOf spX8_today spX9_today spX8_dungeons spX9_dungeons spX8_dungeonToday spX9_dungeonToday spL_hasDoor spX9_hasDoor spL_monster spX9_monster spL_hasTreasure spX9_hasTreasure spL_stairs spX9_stairs spL_way spX9_way spL_wayByDoors spX9_wayByDoors spX8_runs spX9_runs spL_dungeonOf spX9_dungeonOf spL_verdict spX9_verdict spL_scoreOf spX9_scoreOf spL_endOf spX9_endOf spL_rank spX9_rank spL_ranked spX9_ranked spL_glory spX9_glory lawLR (fun i L S h k z => ∃ m', m' < mm ∧ ivLaw B Ln f i m' L S h k z) L S h k z := by
  obtain ⟨x, m, o, i, n, p5, p6, hi, hmm, h60, hlt, hI, rfl, rfl, hk, hz⟩ := hc
  have hlt := hlt (by decide)
  simp only [vcL_law_33, ac_ent, ldI, ldR, stI, stR, inc, cI, cJ, cN, bop, oAdd, oSub, oMul, oAnd, oOr, oXor, oShl, oShr, oUshr, oRem, oDiv, oMx, oMn, oI2l, oLcmp, oDup, oDup2, oDupX1, oPop, bIc, bI0, bNul, getI, getR, putI, putZ, putR, aLen, aldI, aldZ, aldJ, aldR, astI, astZ, astJ, astR, nwO, nwA, gsT, oObj, oCpy, oCln, oCst, rtI, rtZ, rtR, rtV, thr, call, callH, ac_hsel, ac_as, ac_rs, ac_cs, ac_rcv, List.map_cons, List.map_nil, List.length_cons, List.length_nil, List.replicate, List.append_nil, List.cons_append, List.nil_append, List.getElem?_cons_zero, List.getElem?_cons_succ, List.set, Nat.zero_add, Nat.add_zero, Nat.le_refl, Nat.reduceAdd, Nat.reduceSub, Nat.reduceLeDiff, Int.reduceLT, Int.reduceLE, Int.reduceNeg, Int.reduceEq, true_and, and_true, true_or, or_true, not_true_eq_false, not_false_eq_true, false_implies, true_implies, implies_true, reduceIte, and_self, Int.reduceAdd, Int.reduceMul, Int.reduceSub, eq_self, Int.add_zero, Int.zero_add, String.reduceEq, Nat.zero_le, Option.some.injEq, Sum.inl.injEq, Sum.inr.injEq, reduceCtorEq, Int.reduceToNat, Option.toList_some, Option.toList_none, ac_cs, ac_c10, ac_c11, ac_c12, ac_c13, ac_c14, ac_c15, ac_c16, ac_c17, sc_E, sh_E, sc_I, sh_I, sc_II, sh_II, sc_III, sh_III, sc_R, sh_R, sc_RI, sh_RI, sc_RII, sh_RII, sc_RIII, sh_RIII, sc_RIIII, sh_RIIII, sc_RR, sh_RR, sc_RRI, sh_RRI, sc_RRR, sh_RRR, sc_RIR, sh_RIR, sc_RIRI, sh_RIRI, sc_RRII, sh_RRII, sc_RRIII, sh_RRIII, sc_RIIRR, sh_RIIRR, sc_RIIIRR, sh_RIIIRR, sc_RIIR, sh_RIIR, sc_RRIIR, sh_RRIIR, sc_RRIIIR, sh_RRIIIR, sc_RRIIIIR, sh_RRIIIIR, sc_RRIR, sh_RRIR]
  simp (disch := omega) only [wr_of]
  exact ⟨mm - 8, by omega, iv_1.mpr ⟨x, m, o, i + 5, n + 1, p5, p6, by omega, by omega, by omega, fun q => absurd rfl q, hI, rfl, rfl, by omega, by omega⟩⟩
theorem RC_00 {h h' : ac_H} {x : Int} {ad : sS} (hR : RC h x ad (fun _ _ _ => 0)) (hk : ∀ (k : Nat) (y z : Int), h 0 y 0 ≠ 0 → h' k y z = h k y z) : RC h' x ad (fun _ _ _ => 0) := by
  obtain ⟨hi, hf, hs, -⟩ := hR
  have hA : Aw h h' (fun _ => false) := fun k y z hy _ _ => hk k y z hy
  refine ⟨RCi_A hA hi rfl, RCf_A hA hf ⟨rfl, rfl, rfl, rfl, rfl, rfl, rfl, rfl, rfl, rfl, rfl⟩, RCs_A hA hf hs ⟨rfl, rfl, rfl, rfl, rfl, rfl, rfl⟩, ?_, ?_, ?_, ?_, ?_, ?_⟩
  · intro j j0 j1; exact absurd j1 (Int.not_lt.mpr j0)
  · intro p p0 p1; exact absurd p1 (Int.not_lt.mpr p0)
  · intro p i p0 p1; exact absurd p1 (Int.not_lt.mpr p0)
  · intro d d0 d1; exact absurd d1 (Int.not_lt.mpr d0)
  · intro d f d0 d1; exact absurd d1 (Int.not_lt.mpr d0)
  · intro r r0 r1; exact absurd r1 (Int.not_lt.mpr r0)
theorem TS_00 {T : mT} (h0 : ∀ k, mL k = 0 → T k 0 = 0) (h1 : ∀ k j, mL k ≠ 0 → T k j = 0) : TS T (fun _ _ _ => 0) := by
  refine ⟨⟨h0 1 rfl, fun p _ _ => ⟨h1 2 p (by decide), h1 6 p (by decide)⟩, fun p i p0 p1 => absurd p1 (Int.not_lt.mpr p0)⟩, ⟨h0 7 rfl, fun q => absurd q (by decide)⟩, ⟨h0 11 rfl, fun j j0 j1 => absurd j1 (Int.not_lt.mpr j0)⟩, ⟨h0 15 rfl, fun d d0 d1 => absurd d1 (Int.not_lt.mpr d0), fun q r q0 q1 => ?_, fun q q0 q1 => ?_, fun j _ => ⟨h1 18 j (by decide), h1 19 j (by decide)⟩, fun j _ => h1 20 j (by decide)⟩, h0 25 rfl, fun r r0 r1 => absurd r1 (Int.not_lt.mpr r0)⟩
  · dsimp only at q1; omega
  · dsimp only at q1; omega
set_option maxRecDepth 100000 in
set_option maxHeartbeats 4000000 in
theorem lawc_0 {B Ln : Int} {f : Int → Int} {mm : Nat} {L : ac_L} {S : List ac_V} {h : ac_H} {k z : Nat} (hB : 0 < B) (hL0 : 0 ≤ Ln) (hL : Ln ≤ 2560) (hc : ivLaw B Ln f 0 mm L S h k z) : vcL_law_0 spX8_init spX9_init spL_pack spX9_pack spX9_thrown spL_change spX9_change spL_mend spX9_mend spL_setNeeds spX9_setNeeds spL_open spX9_open spL_key spX9_key spX8_wipe spX9_wipe spL_handIn spX9_handIn spL_judge spX9_judge spX8_packs spX9_packs spL_changes spX9_changes spL_isPossible spX9_isPossible spL_orderAt spX9_orderAt spL_ruleOf spX9_ruleOf spX8_today spX9_today spX8_dungeons spX9_dungeons spX8_dungeonToday spX9_dungeonToday spL_hasDoor spX9_hasDoor spL_monster spX9_monster spL_hasTreasure spX9_hasTreasure spL_stairs spX9_stairs spL_way spX9_way spL_wayByDoors spX9_wayByDoors spX8_runs spX9_runs spL_dungeonOf spX9_dungeonOf spL_verdict spX9_verdict spL_scoreOf spX9_scoreOf spL_endOf spX9_endOf spL_rank spX9_rank spL_ranked spX9_ranked spL_glory spX9_glory lawLR (fun i L S h k z => ∃ m', m' < mm ∧ ivLaw B Ln f i m' L S h k z) L S h k z := by
  obtain ⟨hmm, hS, rfl, rfl, rfl, rfl⟩ := iv_0.mp hc
  obtain ⟨s1, s2, s3⟩ := hS
  simp only [vcL_law_0, spX8_init, spX9_init, sc_R, sh_R, ac_ent, ldI, ldR, stI, stR, inc, cI, cJ, cN, bop, oAdd, oSub, oMul, oAnd, oOr, oXor, oShl, oShr, oUshr, oRem, oDiv, oMx, oMn, oI2l, oLcmp, oDup, oDup2, oDupX1, oPop, bIc, bI0, bNul, getI, getR, putI, putZ, putR, aLen, aldI, aldZ, aldJ, aldR, astI, astZ, astJ, astR, nwO, nwA, gsT, oObj, oCpy, oCln, oCst, rtI, rtZ, rtR, rtV, thr, call, callH, ac_hsel, ac_as, ac_rs, ac_cs, ac_rcv, List.map_cons, List.map_nil, List.length_cons, List.length_nil, List.replicate, List.append_nil, List.cons_append, List.nil_append, List.getElem?_cons_zero, List.getElem?_cons_succ, List.set, Nat.zero_add, Nat.add_zero, Nat.le_refl, Nat.reduceAdd, Nat.reduceSub, Nat.reduceLeDiff, Int.reduceLT, Int.reduceLE, Int.reduceNeg, Int.reduceEq, true_and, and_true, true_or, or_true, not_true_eq_false, not_false_eq_true, false_implies, true_implies, implies_true, reduceIte, and_self, Int.reduceAdd, Int.reduceMul, Int.reduceSub, eq_self, Int.add_zero, Int.zero_add, String.reduceEq, Nat.zero_le, Option.some.injEq, Sum.inl.injEq, Sum.inr.injEq, reduceCtorEq, Int.reduceToNat, Option.toList_some, Option.toList_none, ac_cs, ac_c10, ac_c11, ac_c12, ac_c13, ac_c14, ac_c15, ac_c16, ac_c17, sc_E, sh_E, sc_I, sh_I, sc_II, sh_II, sc_III, sh_III, sc_R, sh_R, sc_RI, sh_RI, sc_RII, sh_RII, sc_RIII, sh_RIII, sc_RIIII, sh_RIIII, sc_RR, sh_RR, sc_RRI, sh_RRI, sc_RRR, sh_RRR, sc_RIR, sh_RIR, sc_RIRI, sh_RIRI, sc_RRII, sh_RRII, sc_RRIII, sh_RRIII, sc_RIIRR, sh_RIIRR, sc_RIIIRR, sh_RIIIRR, sc_RIIR, sh_RIIR, sc_RRIIR, sh_RRIIR, sc_RRIIIR, sh_RRIIIR, sc_RRIIIIR, sh_RRIIIIR, sc_RRIR, sh_RRIR]
  intro x nx
  refine ⟨⟨nx.1, up_self .., fun k hk => by rw [up_k hk]; exact nx.2 k 0⟩, ?_⟩
  rintro v h2 ⟨rfl, ad, hR, hk2, hfr⟩
  have xB : B ≠ x := new_ne nx (by rw [s1]; decide)
  have kB : ∀ (k : Nat) z, h2 k B z = h k B z := fun k z => by
    rw [hk2 k B z (by rw [up_a xB, s1]; decide) xB, up_a xB]
  have x28 := hR.2.1.2.2.1
  simp only [ac_ent, ldI, ldR, stI, stR, inc, cI, cJ, cN, bop, oAdd, oSub, oMul, oAnd, oOr, oXor, oShl, oShr, oUshr, oRem, oDiv, oMx, oMn, oI2l, oLcmp, oDup, oDup2, oDupX1, oPop, bIc, bI0, bNul, getI, getR, putI, putZ, putR, aLen, aldI, aldZ, aldJ, aldR, astI, astZ, astJ, astR, nwO, nwA, gsT, oObj, oCpy, oCln, oCst, rtI, rtZ, rtR, rtV, thr, call, callH, ac_hsel, ac_as, ac_rs, ac_cs, ac_rcv, List.map_cons, List.map_nil, List.length_cons, List.length_nil, List.replicate, List.append_nil, List.cons_append, List.nil_append, List.getElem?_cons_zero, List.getElem?_cons_succ, List.set, Nat.zero_add, Nat.add_zero, Nat.le_refl, Nat.reduceAdd, Nat.reduceSub, Nat.reduceLeDiff, Int.reduceLT, Int.reduceLE, Int.reduceNeg, Int.reduceEq, true_and, and_true, true_or, or_true, not_true_eq_false, not_false_eq_true, false_implies, true_implies, implies_true, reduceIte, and_self, Int.reduceAdd, Int.reduceMul, Int.reduceSub, eq_self, Int.add_zero, Int.zero_add, String.reduceEq, Nat.zero_le, Option.some.injEq, Sum.inl.injEq, Sum.inr.injEq, reduceCtorEq, Int.reduceToNat, Option.toList_some, Option.toList_none, ac_cs, ac_c10, ac_c11, ac_c12, ac_c13, ac_c14, ac_c15, ac_c16, ac_c17, sc_E, sh_E, sc_I, sh_I, sc_II, sh_II, sc_III, sh_III, sc_R, sh_R, sc_RI, sh_RI, sc_RII, sh_RII, sc_RIII, sh_RIII, sc_RIIII, sh_RIIII, sc_RR, sh_RR, sc_RRI, sh_RRI, sc_RRR, sh_RRR, sc_RIR, sh_RIR, sc_RIRI, sh_RIRI, sc_RRII, sh_RRII, sc_RRIII, sh_RRIII, sc_RIIRR, sh_RIIRR, sc_RIIIRR, sh_RIIIRR, sc_RIIR, sh_RIIR, sc_RRIIR, sh_RRIIR, sc_RRIIIR, sh_RRIIIR, sc_RRIIIIR, sh_RRIIIIR, sc_RRIR, sh_RRIR]
  intro m nm
  refine ⟨⟨nm.1, up_self .., fun k hk => by rw [up_k hk]; exact nm.2 k 0⟩, ?_⟩
  rintro v h4 ⟨rfl, hK, hz0, hz1, hk4, hf4⟩
  have key4 : ∀ (k : Nat) (y z : Int), h2 0 y 0 ≠ 0 → h4 k y z = h2 k y z := fun k y z hy => by
    have ym := new_ne nm hy
    rw [hk4 k y z (by rw [up_a ym]; exact hy) ym, up_a ym]
  simp only [ac_ent, ldI, ldR, stI, stR, inc, cI, cJ, cN, bop, oAdd, oSub, oMul, oAnd, oOr, oXor, oShl, oShr, oUshr, oRem, oDiv, oMx, oMn, oI2l, oLcmp, oDup, oDup2, oDupX1, oPop, bIc, bI0, bNul, getI, getR, putI, putZ, putR, aLen, aldI, aldZ, aldJ, aldR, astI, astZ, astJ, astR, nwO, nwA, gsT, oObj, oCpy, oCln, oCst, rtI, rtZ, rtR, rtV, thr, call, callH, ac_hsel, ac_as, ac_rs, ac_cs, ac_rcv, List.map_cons, List.map_nil, List.length_cons, List.length_nil, List.replicate, List.append_nil, List.cons_append, List.nil_append, List.getElem?_cons_zero, List.getElem?_cons_succ, List.set, Nat.zero_add, Nat.add_zero, Nat.le_refl, Nat.reduceAdd, Nat.reduceSub, Nat.reduceLeDiff, Int.reduceLT, Int.reduceLE, Int.reduceNeg, Int.reduceEq, true_and, and_true, true_or, or_true, not_true_eq_false, not_false_eq_true, false_implies, true_implies, implies_true, reduceIte, and_self, Int.reduceAdd, Int.reduceMul, Int.reduceSub, eq_self, Int.add_zero, Int.zero_add, String.reduceEq, Nat.zero_le, Option.some.injEq, Sum.inl.injEq, Sum.inr.injEq, reduceCtorEq, Int.reduceToNat, Option.toList_some, Option.toList_none, ac_cs, ac_c10, ac_c11, ac_c12, ac_c13, ac_c14, ac_c15, ac_c16, ac_c17, sc_E, sh_E, sc_I, sh_I, sc_II, sh_II, sc_III, sh_III, sc_R, sh_R, sc_RI, sh_RI, sc_RII, sh_RII, sc_RIII, sh_RIII, sc_RIIII, sh_RIIII, sc_RR, sh_RR, sc_RRI, sh_RRI, sc_RRR, sh_RRR, sc_RIR, sh_RIR, sc_RIRI, sh_RIRI, sc_RRII, sh_RRII, sc_RRIII, sh_RRIII, sc_RIIRR, sh_RIIRR, sc_RIIIRR, sh_RIIIRR, sc_RIIR, sh_RIIR, sc_RRIIR, sh_RRIIR, sc_RRIIIR, sh_RRIIIR, sc_RRIIIIR, sh_RRIIIIR, sc_RRIR, sh_RRIR]
  intro o no
  have key5 : ∀ (k : Nat) (y z : Int), h4 0 y 0 ≠ 0 → up (up h4 0 o 0 12) 1 o 0 1 k y z = h4 k y z := fun k y z hy => by
    have yo := new_ne no hy
    rw [up_a yo, up_a yo]
  have o12 : up (up h4 0 o 0 12) 1 o 0 1 0 o 0 = 12 := by rw [up_k (by decide), up_self]
  have o1 : up (up h4 0 o 0 12) 1 o 0 1 1 o 0 = 1 := up_self ..
  generalize up (up h4 0 o 0 12) 1 o 0 1 = h5 at key5 o12 o1 ⊢
  have m29 := hK.2.1
  have B4 : ∀ (k : Nat) z, h4 k B z = h k B z := fun k z => by
    rw [key4 k B z (by rw [kB, s1]; decide), kB]
  have B5 : ∀ (k : Nat) z, h5 k B z = h k B z := fun k z => by
    rw [key5 k B z (by rw [B4, s1]; decide), B4]
  have hR4 := RC_00 hR key4
  have hR5 := RC_00 hR4 key5
  obtain ⟨K5, T5⟩ := MV_same hK (fun k z => key5 k m z (by rw [m29]; decide)) (fun i hi k z => key5 k _ z (by rw [(hK.2.2.1 i hi).2.1]; exact mW_k.1))
  refine ⟨6000, by omega, iv_1.mpr ⟨x, m, o, 0, 0, none, none, by omega, by omega, by omega, fun q => absurd rfl q, ⟨ad, fun _ _ _ => 0, hR5, SI_0, K5, ?_, fun t i j => ?_, ⟨o12, o1⟩, ⟨by rw [B5]; exact s1, by rw [B5]; exact s2, fun j j0 j1 => by rw [B5]; exact s3 j j0 j1⟩⟩, rfl, rfl, by omega, by omega⟩⟩
  · rw [T5]; exact TS_00 hz0 hz1
  · have pa := fun k (hk : mL k ≠ 0) => (hK.2.2.1 k hk).1
    have ar : ∀ k, mL k ≠ 0 → h5 (1000 + k) m 0 = h4 (1000 + k) m 0 := fun k _ => key5 _ m 0 (by rw [m29]; decide)
    refine ⟨fun e => ?_, fun e => ?_, fun e => ?_, fun k hk e => ?_⟩
    · rcases hfr t i j with q | q | q
      · exact xB (e.symm.trans q)
      · omega
      · rw [e, up_a xB, s1] at q; exact absurd q (by decide)
    · rcases hR.1.2 t i j with q | q
      · have := nm.1; omega
      · rw [e] at q; exact q (nm.2 0 0)
    · rcases hR4.1.2 t i j with q | q
      · have := no.1; omega
      · rw [e] at q; exact q (no.2 0 0)
    · rw [ar k hk] at e
      rcases hR.1.2 t i j with q | q
      · have := pa k hk; omega
      · have ym := new_ne nm q
        have := hf4 k hk
        rw [← e, up_a ym] at this
        exact q this
