/-! ===== a set: its order and its rules are so ===== -/
theorem dC_9 (x y z u : Int) (s : sS) : dCd 9 x y z u s = cdOrder x y s ∧ dVl 9 x y z u s = vlOrder x y s ∧ dSt 9 x y z u s = s := by
  refine ⟨?_, ?_, ?_⟩
  · unfold dCd; rw [if_neg (by decide), if_neg (by decide), if_neg (by decide), if_neg (by decide), if_neg (by decide), if_neg (by decide), if_neg (by decide), if_neg (by decide), if_neg (by decide)]
  · unfold dVl; rw [if_neg (by decide), if_neg (by decide), if_neg (by decide), if_neg (by decide), if_neg (by decide), if_neg (by decide), if_neg (by decide), if_neg (by decide), if_neg (by decide)]
  · unfold dSt; rw [if_neg (by decide), if_neg (by decide), if_neg (by decide), if_neg (by decide), if_neg (by decide), if_neg (by decide), if_neg (by decide), if_neg (by decide)]
theorem dC_8 (x y z u : Int) (s : sS) : dCd 8 x y z u s = cdRule x y s ∧ dVl 8 x y z u s = rls s x y ∧ dSt 8 x y z u s = s := by
  refine ⟨?_, ?_, ?_⟩
  · unfold dCd; rw [if_neg (by decide), if_neg (by decide), if_neg (by decide), if_neg (by decide), if_neg (by decide), if_neg (by decide), if_neg (by decide), if_neg (by decide), if_pos rfl]
  · unfold dVl; rw [if_neg (by decide), if_neg (by decide), if_neg (by decide), if_neg (by decide), if_neg (by decide), if_neg (by decide), if_neg (by decide), if_neg (by decide), if_pos rfl]
  · unfold dSt; rw [if_neg (by decide), if_neg (by decide), if_neg (by decide), if_neg (by decide), if_neg (by decide), if_neg (by decide), if_neg (by decide), if_neg (by decide)]
theorem d9_y {s : sS} {set place : Int} (ha : hasA set s) (p0 : 0 ≤ place) (hp : psb s set) : dA 9 set place 0 0 s = vlOrder set place s := by
  have c : cdOrder set place s = 0 := by rw [cdOrder, if_pos ⟨ha, p0⟩, if_pos hp]
  obtain ⟨e1, e2, -⟩ := dC_9 set place 0 0 s
  unfold dA
  rw [e1, if_pos c, e2]
theorem d9_n {s : sS} {set place : Int} (ha : hasA set s) (p0 : 0 ≤ place) (hp : ¬ psb s set) : dA 9 set place 0 0 s = -9999999 := by
  have c : cdOrder set place s = 2 := by rw [cdOrder, if_pos ⟨ha, p0⟩, if_neg hp]
  obtain ⟨e1, e2, -⟩ := dC_9 set place 0 0 s
  unfold dA
  rw [e1, if_neg (by rw [c]; decide)]
theorem d9_s (set place : Int) (s : sS) : dN 9 set place 0 0 s = s := by
  unfold dN
  rw [(dC_9 set place 0 0 s).2.2]
  split <;> rfl
theorem d8_y {s : sS} {set rl : Int} (ha : hasA set s) (r0 : 0 ≤ rl) (r1 : rl < 6) (hp : psb s set) : dA 8 set rl 0 0 s = rls s set rl := by
  have c : cdRule set rl s = 0 := by rw [cdRule, if_pos ⟨r0, r1⟩, if_pos ha, if_pos hp]
  obtain ⟨e1, e2, -⟩ := dC_8 set rl 0 0 s
  unfold dA
  rw [e1, if_pos c, e2]
theorem d8_n {s : sS} {set rl : Int} (ha : hasA set s) (r0 : 0 ≤ rl) (r1 : rl < 6) (hp : ¬ psb s set) : dA 8 set rl 0 0 s = -9999999 := by
  have c : cdRule set rl s = 3 := by rw [cdRule, if_pos ⟨r0, r1⟩, if_pos ha, if_neg hp]
  obtain ⟨e1, e2, -⟩ := dC_8 set rl 0 0 s
  unfold dA
  rw [e1, if_neg (by rw [c]; decide)]
theorem d8_s (set rl : Int) (s : sS) : dN 8 set rl 0 0 s = s := by
  unfold dN
  rw [(dC_8 set rl 0 0 s).2.2]
  split <;> rfl
/-- a call of does that changes nothing -/
theorem CZ_z {o : Int} {h g : ac_H} {v : Option ac_V} {vl : sS → Int} {F : sS → sS} (w : OKz o h g v vl F) (hF : ∀ s, F s = s) : CZ o h g := fun Z s q => by
  obtain ⟨-, a, b⟩ := w Z s q
  rw [hF] at a
  exact ⟨a, b⟩
def sso (s : sS) (set : Int) (i : Nat) (may met pack : Int) : Prop := (psb s set ∧ may = 1 ∧ i ≤ onS s set ∧ met = mtS s set i ∧ pack = vlOrder set i s) ∨ (¬ psb s set ∧ may = 0 ∧ i = 0 ∧ met = 0 ∧ pack = -9999999)
def spL_isSetSo : ac_Sp := sc_RI (fun o set h => CX h o ∧ ∀ Z s, FZ Z h o s → hasA set s) (fun o set h v h' => v = some (.inl 1) ∧ CZ o h h') (fun _ _ _ _ _ => False)
def ivL_isSetSo (o set : Int) (s : sS) (h : ac_H) : Nat → Nat → ac_S := fun j m => match j with
  | 0 => fun L S g k z => m = 1000 ∧ ent0 [some (.inr (.inl o)), some (.inl set), none, none, none, none, none, none, none, none] h L S g k z
  | 1 => fun L S g k z => ∃ (i : Nat) (may met pack : Int) (o6 o7 o8 o9 : Option ac_V), m = 300 - i ∧ i ≤ 10 ∧ sso s set i may met pack ∧ CZ o h g ∧ L = [some (.inr (.inl o)), some (.inl set), some (.inl may), some (.inl met), some (.inl i), some (.inl pack), o6, o7, o8, o9] ∧ S = [] ∧ k ≤ 29 + 28 * i ∧ z ≤ 401 + 395 * i
  | 2 => fun L S g k z => ∃ (i : Nat) (may met pack : Int) (o6 o7 o8 o9 : Option ac_V), m = 200 ∧ i ≤ 10 ∧ sso s set i may met pack ∧ pack < 0 ∧ CZ o h g ∧ L = [some (.inr (.inl o)), some (.inl set), some (.inl may), some (.inl met), some (.inl i), some (.inl pack), o6, o7, o8, o9] ∧ S = [] ∧ k ≤ 29 + 28 * i ∧ z ≤ 401 + 395 * i
  | 5 => fun L S g k z => ∃ (may : Int) (o3 o4 o5 o6 o7 o8 o9 : Option ac_V), m = 150 ∧ may = (if psb s set then 1 else 0) ∧ CZ o h g ∧ L = [some (.inr (.inl o)), some (.inl set), some (.inl may), o3, o4, o5, o6, o7, o8, o9] ∧ S = [.inl 1] ∧ k ≤ 309 ∧ z ≤ 4351
  | 6 => fun L S g k z => ∃ (may r : Int) (o3 o4 o5 o8 o9 : Option ac_V), 0 ≤ r ∧ r ≤ 6 ∧ (m : Int) = 100 - 10 * r ∧ may = (if psb s set then 1 else 0) ∧ CZ o h g ∧ L = [some (.inr (.inl o)), some (.inl set), some (.inl may), o3, o4, o5, some (.inl 1), some (.inl r), o8, o9] ∧ S = [] ∧ (k : Int) ≤ 309 + 28 * r ∧ (z : Int) ≤ 4351 + 395 * r
  | 7 => fun L S g k z => ∃ (may r : Int) (o3 o4 o5 o9 : Option ac_V), 0 ≤ r ∧ r < 6 ∧ (m : Int) = 99 - 10 * r ∧ may = (if psb s set then 1 else 0) ∧ CZ o h g ∧ L = [some (.inr (.inl o)), some (.inl set), some (.inl may), o3, o4, o5, some (.inl 1), some (.inl r), some (.inl (dA 8 set r 0 0 s)), o9] ∧ S = [.inl (ac_tbz 2 r)] ∧ (k : Int) ≤ 309 + 28 * (r + 1) ∧ (z : Int) ≤ 4351 + 395 * (r + 1)
  | 8 => fun L S g k z => ∃ (may r : Int) (o3 o4 o5 : Option ac_V), 0 ≤ r ∧ r < 6 ∧ (m : Int) = 98 - 10 * r ∧ psb s set ∧ may = (if psb s set then 1 else 0) ∧ CZ o h g ∧ L = [some (.inr (.inl o)), some (.inl set), some (.inl may), o3, o4, o5, some (.inl 1), some (.inl r), some (.inl (dA 8 set r 0 0 s)), some (.inl (ac_tbz 2 r))] ∧ S = [.inl (ac_tbz 1 r), .inl (dA 8 set r 0 0 s)] ∧ (k : Int) ≤ 309 + 28 * (r + 1) ∧ (z : Int) ≤ 4351 + 395 * (r + 1)
  | 11 => fun L S g k z => ∃ (may r : Int) (o3 o4 o5 o8 o9 : Option ac_V), 0 ≤ r ∧ r < 6 ∧ (m : Int) = 97 - 10 * r ∧ may = (if psb s set then 1 else 0) ∧ CZ o h g ∧ L = [some (.inr (.inl o)), some (.inl set), some (.inl may), o3, o4, o5, some (.inl 1), some (.inl r), o8, o9] ∧ S = [.inl 1] ∧ (k : Int) ≤ 309 + 28 * (r + 1) ∧ (z : Int) ≤ 4351 + 395 * (r + 1)
  | _ => fun _ _ _ _ _ => False
set_option maxRecDepth 100000 in
set_option maxHeartbeats 4000000 in
theorem mtL_isSetSo {G : ac_G} {l : Launch} : ac_Met G l yL_isSetSo mL_isSetSo 9 194 600 8000 spL_isSetSo := by
  refine ac_meth (pcs := pcL_isSetSo) (B := fun P X J j => vcL_isSetSo spX8_isPossible spL_does P X J j) (by decide) rfl rfl rfl (fun P X J hJ j => sdL_isSetSo mtX8_isPossible mtL_does P X J hJ j) (hp_RI (by decide)) fun As h hp => ?_
  obtain ⟨o, set, rfl, hp⟩ := sh_RI_inv hp
  obtain ⟨hX, hA⟩ := hp
  obtain ⟨s, q0⟩ := id hX
  have hS := FZ_S q0
  have ha := hA _ s q0
  have dz9 : ∀ {g g' : ac_H} {w : Option ac_V} {p : Int}, CZ o h g → OKz o g g' w (dA 9 set p 0 0) (dN 9 set p 0 0) → w = some (.inl (dA 9 set p 0 0 s)) ∧ CZ o h g' := fun c w => ⟨(w _ s (CZ_X c q0)).1, CZ_tr c (CZ_z w (d9_s set _))⟩
  have dz8 : ∀ {g g' : ac_H} {w : Option ac_V} {p : Int}, CZ o h g → OKz o g g' w (dA 8 set p 0 0) (dN 8 set p 0 0) → w = some (.inl (dA 8 set p 0 0 s)) ∧ CZ o h g' := fun c w => ⟨(w _ s (CZ_X c q0)).1, CZ_tr c (CZ_z w (d8_s set _))⟩
  have on := on_10 s set
  refine ⟨ivL_isSetSo o set s h, 1000, ⟨rfl, rfl, rfl, rfl, rfl, rfl⟩, fun j m L S g k z hI => ?_⟩
  match j, hI with
  | 0, hI =>
    obtain ⟨hm, rfl, rfl, rfl, rfl, rfl⟩ := hI
    obtain ⟨hW, h1⟩ := CX_W hX
    simp only [spL_isSetSo, vcL_isSetSo, mL_isSetSo, spX8_isPossible, spL_does, ac_ent, ldI, ldR, stI, stR, inc, cI, cJ, cN, bop, oAdd, oSub, oMul, oAnd, oOr, oXor, oShl, oShr, oUshr, oRem, oDiv, oMx, oMn, oI2l, oLcmp, oDup, oDup2, oDupX1, oPop, bIc, bI0, bNul, getI, getR, putI, putZ, putR, aLen, aldI, aldZ, aldJ, aldR, astI, astZ, astJ, astR, nwO, nwA, gsT, oObj, oCpy, oCln, oCst, rtI, rtZ, rtR, rtV, thr, call, callH, ac_hsel, ac_as, ac_rs, ac_cs, ac_rcv, List.map_cons, List.map_nil, List.length_cons, List.length_nil, List.replicate, List.append_nil, List.cons_append, List.nil_append, List.getElem?_cons_zero, List.getElem?_cons_succ, List.set, Nat.zero_add, Nat.add_zero, Nat.le_refl, Nat.reduceAdd, Nat.reduceSub, Nat.reduceLeDiff, Int.reduceLT, Int.reduceLE, Int.reduceNeg, Int.reduceEq, true_and, and_true, true_or, or_true, not_true_eq_false, not_false_eq_true, false_implies, true_implies, implies_true, reduceIte, and_self, Int.reduceAdd, Int.reduceMul, Int.reduceSub, eq_self, Int.add_zero, Int.zero_add, String.reduceEq, Nat.zero_le, Option.some.injEq, Sum.inl.injEq, Sum.inr.injEq, reduceCtorEq, Int.reduceToNat, Option.toList_some, Option.toList_none, ac_cs, ac_c10, ac_c11, ac_c12, ac_c13, ac_c14, ac_c15, ac_c16, ac_c17, sc_E, sh_E, sc_I, sh_I, sc_II, sh_II, sc_III, sh_III, sc_R, sh_R, sc_RI, sh_RI, sc_RII, sh_RII, sc_RIII, sh_RIII, sc_RIIII, sh_RIIII, sc_RR, sh_RR, sc_RRI, sh_RRI, sc_RRR, sh_RRR, sc_RIR, sh_RIR, sc_RIRI, sh_RIRI, sc_RRII, sh_RRII, sc_RRIII, sh_RRIII, sc_RIIRR, sh_RIIRR, sc_RIIIRR, sh_RIIIRR, sc_RIIR, sh_RIIR, sc_RRIIR, sh_RRIIR, sc_RRIIIR, sh_RRIIIR, sc_RRIIIIR, sh_RRIIIIR, sc_RRIR, sh_RRIR, hW, h1, and_imp, forall_eq, psc, sc_RIIIII, sh_RIIIII]
    refine ⟨fun v g1 w => ?_, fun E g1 w => ?_⟩
    · obtain ⟨-, rfl, -, -⟩ := FZ_c q0 w (fun _ h _ => h)
      have c1 := CZ_c w
      have X1 := CX_t hX c1
      simp only [X1, ac_ent, ldI, ldR, stI, stR, inc, cI, cJ, cN, bop, oAdd, oSub, oMul, oAnd, oOr, oXor, oShl, oShr, oUshr, oRem, oDiv, oMx, oMn, oI2l, oLcmp, oDup, oDup2, oDupX1, oPop, bIc, bI0, bNul, getI, getR, putI, putZ, putR, aLen, aldI, aldZ, aldJ, aldR, astI, astZ, astJ, astR, nwO, nwA, gsT, oObj, oCpy, oCln, oCst, rtI, rtZ, rtR, rtV, thr, call, callH, ac_hsel, ac_as, ac_rs, ac_cs, ac_rcv, List.map_cons, List.map_nil, List.length_cons, List.length_nil, List.replicate, List.append_nil, List.cons_append, List.nil_append, List.getElem?_cons_zero, List.getElem?_cons_succ, List.set, Nat.zero_add, Nat.add_zero, Nat.le_refl, Nat.reduceAdd, Nat.reduceSub, Nat.reduceLeDiff, Int.reduceLT, Int.reduceLE, Int.reduceNeg, Int.reduceEq, true_and, and_true, true_or, or_true, not_true_eq_false, not_false_eq_true, false_implies, true_implies, implies_true, reduceIte, and_self, Int.reduceAdd, Int.reduceMul, Int.reduceSub, eq_self, Int.add_zero, Int.zero_add, String.reduceEq, Nat.zero_le, Option.some.injEq, Sum.inl.injEq, Sum.inr.injEq, reduceCtorEq, Int.reduceToNat, Option.toList_some, Option.toList_none, ac_cs, ac_c10, ac_c11, ac_c12, ac_c13, ac_c14, ac_c15, ac_c16, ac_c17, sc_E, sh_E, sc_I, sh_I, sc_II, sh_II, sc_III, sh_III, sc_R, sh_R, sc_RI, sh_RI, sc_RII, sh_RII, sc_RIII, sh_RIII, sc_RIIII, sh_RIIII, sc_RR, sh_RR, sc_RRI, sh_RRI, sc_RRR, sh_RRR, sc_RIR, sh_RIR, sc_RIRI, sh_RIRI, sc_RRII, sh_RRII, sc_RRIII, sh_RRIII, sc_RIIRR, sh_RIIRR, sc_RIIIRR, sh_RIIIRR, sc_RIIR, sh_RIIR, sc_RRIIR, sh_RRIIR, sc_RRIIIR, sh_RRIIIR, sc_RRIIIIR, sh_RRIIIIR, sc_RRIR, sh_RRIR, and_imp, forall_eq, psc, sc_RIIIII, sh_RIIIII]
      intro v g2 w2
      obtain ⟨rfl, c2⟩ := dz9 c1 w2
      simp only [ac_ent, ldI, ldR, stI, stR, inc, cI, cJ, cN, bop, oAdd, oSub, oMul, oAnd, oOr, oXor, oShl, oShr, oUshr, oRem, oDiv, oMx, oMn, oI2l, oLcmp, oDup, oDup2, oDupX1, oPop, bIc, bI0, bNul, getI, getR, putI, putZ, putR, aLen, aldI, aldZ, aldJ, aldR, astI, astZ, astJ, astR, nwO, nwA, gsT, oObj, oCpy, oCln, oCst, rtI, rtZ, rtR, rtV, thr, call, callH, ac_hsel, ac_as, ac_rs, ac_cs, ac_rcv, List.map_cons, List.map_nil, List.length_cons, List.length_nil, List.replicate, List.append_nil, List.cons_append, List.nil_append, List.getElem?_cons_zero, List.getElem?_cons_succ, List.set, Nat.zero_add, Nat.add_zero, Nat.le_refl, Nat.reduceAdd, Nat.reduceSub, Nat.reduceLeDiff, Int.reduceLT, Int.reduceLE, Int.reduceNeg, Int.reduceEq, true_and, and_true, true_or, or_true, not_true_eq_false, not_false_eq_true, false_implies, true_implies, implies_true, reduceIte, and_self, Int.reduceAdd, Int.reduceMul, Int.reduceSub, eq_self, Int.add_zero, Int.zero_add, String.reduceEq, Nat.zero_le, Option.some.injEq, Sum.inl.injEq, Sum.inr.injEq, reduceCtorEq, Int.reduceToNat, Option.toList_some, Option.toList_none, ac_cs, ac_c10, ac_c11, ac_c12, ac_c13, ac_c14, ac_c15, ac_c16, ac_c17, sc_E, sh_E, sc_I, sh_I, sc_II, sh_II, sc_III, sh_III, sc_R, sh_R, sc_RI, sh_RI, sc_RII, sh_RII, sc_RIII, sh_RIII, sc_RIIII, sh_RIIII, sc_RR, sh_RR, sc_RRI, sh_RRI, sc_RRR, sh_RRR, sc_RIR, sh_RIR, sc_RIRI, sh_RIRI, sc_RRII, sh_RRII, sc_RRIII, sh_RRIII, sc_RIIRR, sh_RIIRR, sc_RIIIRR, sh_RIIIRR, sc_RIIR, sh_RIIR, sc_RRIIR, sh_RRIIR, sc_RRIIIR, sh_RRIIIR, sc_RRIIIIR, sh_RRIIIIR, sc_RRIR, sh_RRIR, and_imp, forall_eq, psc, sc_RIIIII, sh_RIIIII]
      refine ⟨300, by omega, 0, _, _, _, _, _, _, _, by omega, by omega, ?_, c2, rfl, rfl, by omega, by omega⟩
      by_cases hp : psb s set
      · left; exact ⟨hp, if_pos hp, by omega, rfl, d9_y ha (by omega) hp⟩
      · right; exact ⟨hp, if_neg hp, rfl, rfl, d9_n ha (by omega) hp⟩
    · exact absurd (show cdSet set s = 0 from if_pos ha) (FZ_e q0 w).1
  | 1, hI =>
    obtain ⟨i, may, met, pack, o6, o7, o8, o9, hm, i10, so, c, rfl, rfl, hk, hz⟩ := hI
    have X1 := CX_t hX c
    simp only [spL_isSetSo, vcL_isSetSo, mL_isSetSo, spX8_isPossible, spL_does, ac_ent, ldI, ldR, stI, stR, inc, cI, cJ, cN, bop, oAdd, oSub, oMul, oAnd, oOr, oXor, oShl, oShr, oUshr, oRem, oDiv, oMx, oMn, oI2l, oLcmp, oDup, oDup2, oDupX1, oPop, bIc, bI0, bNul, getI, getR, putI, putZ, putR, aLen, aldI, aldZ, aldJ, aldR, astI, astZ, astJ, astR, nwO, nwA, gsT, oObj, oCpy, oCln, oCst, rtI, rtZ, rtR, rtV, thr, call, callH, ac_hsel, ac_as, ac_rs, ac_cs, ac_rcv, List.map_cons, List.map_nil, List.length_cons, List.length_nil, List.replicate, List.append_nil, List.cons_append, List.nil_append, List.getElem?_cons_zero, List.getElem?_cons_succ, List.set, Nat.zero_add, Nat.add_zero, Nat.le_refl, Nat.reduceAdd, Nat.reduceSub, Nat.reduceLeDiff, Int.reduceLT, Int.reduceLE, Int.reduceNeg, Int.reduceEq, true_and, and_true, true_or, or_true, not_true_eq_false, not_false_eq_true, false_implies, true_implies, implies_true, reduceIte, and_self, Int.reduceAdd, Int.reduceMul, Int.reduceSub, eq_self, Int.add_zero, Int.zero_add, String.reduceEq, Nat.zero_le, Option.some.injEq, Sum.inl.injEq, Sum.inr.injEq, reduceCtorEq, Int.reduceToNat, Option.toList_some, Option.toList_none, ac_cs, ac_c10, ac_c11, ac_c12, ac_c13, ac_c14, ac_c15, ac_c16, ac_c17, sc_E, sh_E, sc_I, sh_I, sc_II, sh_II, sc_III, sh_III, sc_R, sh_R, sc_RI, sh_RI, sc_RII, sh_RII, sc_RIII, sh_RIII, sc_RIIII, sh_RIIII, sc_RR, sh_RR, sc_RRI, sh_RRI, sc_RRR, sh_RRR, sc_RIR, sh_RIR, sc_RIRI, sh_RIRI, sc_RRII, sh_RRII, sc_RRIII, sh_RRIII, sc_RIIRR, sh_RIIRR, sc_RIIIRR, sh_RIIIRR, sc_RIIR, sh_RIIR, sc_RRIIR, sh_RRIIR, sc_RRIIIR, sh_RRIIIR, sc_RRIIIIR, sh_RRIIIIR, sc_RRIR, sh_RRIR, X1, and_imp, forall_eq, psc, sc_RIIIII, sh_RIIIII]
    refine ⟨fun q => ⟨200, by omega, i, may, met, pack, o6, o7, o8, o9, rfl, i10, so, q, c, rfl, rfl, hk, hz⟩, fun q => ⟨fun q2 => by omega, fun q2 => ⟨⟨by omega, by omega⟩, ?_⟩⟩⟩
    rcases so with ⟨hp, e1, e2, e3, e4⟩ | ⟨hp, e1, e2, e3, e4⟩
    case inr => omega
    have lt : i < onS s set := by
      by_cases w : i < onS s set
      · exact w
      · exfalso
        unfold vlOrder at e4
        rw [if_neg (by omega)] at e4
        omega
    intro v g2 w2
    have ei : wr ((i : Int) + 1) = ((i + 1 : Nat) : Int) := by rw [wr_of (by omega) (by omega)]; rfl
    rw [ei] at w2 ⊢
    obtain ⟨rfl, c2⟩ := dz9 c w2
    simp only [ac_ent, ldI, ldR, stI, stR, inc, cI, cJ, cN, bop, oAdd, oSub, oMul, oAnd, oOr, oXor, oShl, oShr, oUshr, oRem, oDiv, oMx, oMn, oI2l, oLcmp, oDup, oDup2, oDupX1, oPop, bIc, bI0, bNul, getI, getR, putI, putZ, putR, aLen, aldI, aldZ, aldJ, aldR, astI, astZ, astJ, astR, nwO, nwA, gsT, oObj, oCpy, oCln, oCst, rtI, rtZ, rtR, rtV, thr, call, callH, ac_hsel, ac_as, ac_rs, ac_cs, ac_rcv, List.map_cons, List.map_nil, List.length_cons, List.length_nil, List.replicate, List.append_nil, List.cons_append, List.nil_append, List.getElem?_cons_zero, List.getElem?_cons_succ, List.set, Nat.zero_add, Nat.add_zero, Nat.le_refl, Nat.reduceAdd, Nat.reduceSub, Nat.reduceLeDiff, Int.reduceLT, Int.reduceLE, Int.reduceNeg, Int.reduceEq, true_and, and_true, true_or, or_true, not_true_eq_false, not_false_eq_true, false_implies, true_implies, implies_true, reduceIte, and_self, Int.reduceAdd, Int.reduceMul, Int.reduceSub, eq_self, Int.add_zero, Int.zero_add, String.reduceEq, Nat.zero_le, Option.some.injEq, Sum.inl.injEq, Sum.inr.injEq, reduceCtorEq, Int.reduceToNat, Option.toList_some, Option.toList_none, ac_cs, ac_c10, ac_c11, ac_c12, ac_c13, ac_c14, ac_c15, ac_c16, ac_c17, sc_E, sh_E, sc_I, sh_I, sc_II, sh_II, sc_III, sh_III, sc_R, sh_R, sc_RI, sh_RI, sc_RII, sh_RII, sc_RIII, sh_RIII, sc_RIIII, sh_RIIII, sc_RR, sh_RR, sc_RRI, sh_RRI, sc_RRR, sh_RRR, sc_RIR, sh_RIR, sc_RIRI, sh_RIRI, sc_RRII, sh_RRII, sc_RRIII, sh_RRIII, sc_RIIRR, sh_RIIRR, sc_RIIIRR, sh_RIIIRR, sc_RIIR, sh_RIIR, sc_RRIIR, sh_RRIIR, sc_RRIIIR, sh_RRIIIR, sc_RRIIIIR, sh_RRIIIIR, sc_RRIR, sh_RRIR, and_imp, forall_eq, psc, sc_RIIIII, sh_RIIIII]
    refine ⟨300 - (i + 1), by omega, i + 1, may, _, _, o6, o7, o8, o9, rfl, by omega, ?_, c2, rfl, rfl, by omega, by omega⟩
    left
    refine ⟨hp, e1, lt, ?_, d9_y ha (by omega) hp⟩
    rw [mtS, e3, e4]
    unfold vlOrder
    rw [if_pos (by omega)]; rfl
  | 2, hI =>
    obtain ⟨i, may, met, pack, o6, o7, o8, o9, hm, i10, so, hq, c, rfl, rfl, hk, hz⟩ := hI
    rcases so with ⟨hp, rfl, e2, rfl, e4⟩ | ⟨hp, rfl, rfl, rfl, rfl⟩
    · have ei : i = onS s set := by
        by_cases w : i < onS s set
        · exfalso
          unfold vlOrder at e4
          rw [if_pos (by omega)] at e4
          have := (or_rg hS w).1
          rw [e4] at hq
          simp at hq
          omega
        · omega
      have ep : pack = -1 := by rw [e4, vlOrder, if_neg (by omega)]
      have em : mtS s set i = set := by rw [ei]; exact mt_all hS hp
      rw [em, ep]
      simp only [spL_isSetSo, vcL_isSetSo, mL_isSetSo, spX8_isPossible, spL_does, ac_ent, ldI, ldR, stI, stR, inc, cI, cJ, cN, bop, oAdd, oSub, oMul, oAnd, oOr, oXor, oShl, oShr, oUshr, oRem, oDiv, oMx, oMn, oI2l, oLcmp, oDup, oDup2, oDupX1, oPop, bIc, bI0, bNul, getI, getR, putI, putZ, putR, aLen, aldI, aldZ, aldJ, aldR, astI, astZ, astJ, astR, nwO, nwA, gsT, oObj, oCpy, oCln, oCst, rtI, rtZ, rtR, rtV, thr, call, callH, ac_hsel, ac_as, ac_rs, ac_cs, ac_rcv, List.map_cons, List.map_nil, List.length_cons, List.length_nil, List.replicate, List.append_nil, List.cons_append, List.nil_append, List.getElem?_cons_zero, List.getElem?_cons_succ, List.set, Nat.zero_add, Nat.add_zero, Nat.le_refl, Nat.reduceAdd, Nat.reduceSub, Nat.reduceLeDiff, Int.reduceLT, Int.reduceLE, Int.reduceNeg, Int.reduceEq, true_and, and_true, true_or, or_true, not_true_eq_false, not_false_eq_true, false_implies, true_implies, implies_true, reduceIte, and_self, Int.reduceAdd, Int.reduceMul, Int.reduceSub, eq_self, Int.add_zero, Int.zero_add, String.reduceEq, Nat.zero_le, Option.some.injEq, Sum.inl.injEq, Sum.inr.injEq, reduceCtorEq, Int.reduceToNat, Option.toList_some, Option.toList_none, ac_cs, ac_c10, ac_c11, ac_c12, ac_c13, ac_c14, ac_c15, ac_c16, ac_c17, sc_E, sh_E, sc_I, sh_I, sc_II, sh_II, sc_III, sh_III, sc_R, sh_R, sc_RI, sh_RI, sc_RII, sh_RII, sc_RIII, sh_RIII, sc_RIIII, sh_RIIII, sc_RR, sh_RR, sc_RRI, sh_RRI, sc_RRR, sh_RRR, sc_RIR, sh_RIR, sc_RIRI, sh_RIRI, sc_RRII, sh_RRII, sc_RRIII, sh_RRIII, sc_RIIRR, sh_RIIRR, sc_RIIIRR, sh_RIIIRR, sc_RIIR, sh_RIIR, sc_RRIIR, sh_RRIIR, sc_RRIIIR, sh_RRIIIR, sc_RRIIIIR, sh_RRIIIIR, sc_RRIR, sh_RRIR, and_imp, forall_eq, psc, sc_RIIIII, sh_RIIIII]
      exact ⟨150, by omega, 1, _, _, _, o6, o7, o8, o9, rfl, by rw [if_pos hp], c, rfl, rfl, by omega, by omega⟩
    · simp only [spL_isSetSo, vcL_isSetSo, mL_isSetSo, spX8_isPossible, spL_does, ac_ent, ldI, ldR, stI, stR, inc, cI, cJ, cN, bop, oAdd, oSub, oMul, oAnd, oOr, oXor, oShl, oShr, oUshr, oRem, oDiv, oMx, oMn, oI2l, oLcmp, oDup, oDup2, oDupX1, oPop, bIc, bI0, bNul, getI, getR, putI, putZ, putR, aLen, aldI, aldZ, aldJ, aldR, astI, astZ, astJ, astR, nwO, nwA, gsT, oObj, oCpy, oCln, oCst, rtI, rtZ, rtR, rtV, thr, call, callH, ac_hsel, ac_as, ac_rs, ac_cs, ac_rcv, List.map_cons, List.map_nil, List.length_cons, List.length_nil, List.replicate, List.append_nil, List.cons_append, List.nil_append, List.getElem?_cons_zero, List.getElem?_cons_succ, List.set, Nat.zero_add, Nat.add_zero, Nat.le_refl, Nat.reduceAdd, Nat.reduceSub, Nat.reduceLeDiff, Int.reduceLT, Int.reduceLE, Int.reduceNeg, Int.reduceEq, true_and, and_true, true_or, or_true, not_true_eq_false, not_false_eq_true, false_implies, true_implies, implies_true, reduceIte, and_self, Int.reduceAdd, Int.reduceMul, Int.reduceSub, eq_self, Int.add_zero, Int.zero_add, String.reduceEq, Nat.zero_le, Option.some.injEq, Sum.inl.injEq, Sum.inr.injEq, reduceCtorEq, Int.reduceToNat, Option.toList_some, Option.toList_none, ac_cs, ac_c10, ac_c11, ac_c12, ac_c13, ac_c14, ac_c15, ac_c16, ac_c17, sc_E, sh_E, sc_I, sh_I, sc_II, sh_II, sc_III, sh_III, sc_R, sh_R, sc_RI, sh_RI, sc_RII, sh_RII, sc_RIII, sh_RIII, sc_RIIII, sh_RIIII, sc_RR, sh_RR, sc_RRI, sh_RRI, sc_RRR, sh_RRR, sc_RIR, sh_RIR, sc_RIRI, sh_RIRI, sc_RRII, sh_RRII, sc_RRIII, sh_RRIII, sc_RIIRR, sh_RIIRR, sc_RIIIRR, sh_RIIIRR, sc_RIIR, sh_RIIR, sc_RRIIR, sh_RRIIR, sc_RRIIIR, sh_RRIIIR, sc_RRIIIIR, sh_RRIIIIR, sc_RRIR, sh_RRIR, and_imp, forall_eq, psc, sc_RIIIII, sh_RIIIII]
      exact ⟨fun _ => ⟨150, by omega, 0, _, _, _, o6, o7, o8, o9, rfl, by rw [if_neg hp], c, rfl, rfl, by omega, by omega⟩, fun q => absurd rfl q⟩
  | 3, hI => exact hI.elim
  | 4, hI => exact hI.elim
  | 5, hI =>
    obtain ⟨may, o3, o4, o5, o6, o7, o8, o9, hm, hy, c, rfl, rfl, hk, hz⟩ := hI
    simp only [spL_isSetSo, vcL_isSetSo, mL_isSetSo, spX8_isPossible, spL_does, ac_ent, ldI, ldR, stI, stR, inc, cI, cJ, cN, bop, oAdd, oSub, oMul, oAnd, oOr, oXor, oShl, oShr, oUshr, oRem, oDiv, oMx, oMn, oI2l, oLcmp, oDup, oDup2, oDupX1, oPop, bIc, bI0, bNul, getI, getR, putI, putZ, putR, aLen, aldI, aldZ, aldJ, aldR, astI, astZ, astJ, astR, nwO, nwA, gsT, oObj, oCpy, oCln, oCst, rtI, rtZ, rtR, rtV, thr, call, callH, ac_hsel, ac_as, ac_rs, ac_cs, ac_rcv, List.map_cons, List.map_nil, List.length_cons, List.length_nil, List.replicate, List.append_nil, List.cons_append, List.nil_append, List.getElem?_cons_zero, List.getElem?_cons_succ, List.set, Nat.zero_add, Nat.add_zero, Nat.le_refl, Nat.reduceAdd, Nat.reduceSub, Nat.reduceLeDiff, Int.reduceLT, Int.reduceLE, Int.reduceNeg, Int.reduceEq, true_and, and_true, true_or, or_true, not_true_eq_false, not_false_eq_true, false_implies, true_implies, implies_true, reduceIte, and_self, Int.reduceAdd, Int.reduceMul, Int.reduceSub, eq_self, Int.add_zero, Int.zero_add, String.reduceEq, Nat.zero_le, Option.some.injEq, Sum.inl.injEq, Sum.inr.injEq, reduceCtorEq, Int.reduceToNat, Option.toList_some, Option.toList_none, ac_cs, ac_c10, ac_c11, ac_c12, ac_c13, ac_c14, ac_c15, ac_c16, ac_c17, sc_E, sh_E, sc_I, sh_I, sc_II, sh_II, sc_III, sh_III, sc_R, sh_R, sc_RI, sh_RI, sc_RII, sh_RII, sc_RIII, sh_RIII, sc_RIIII, sh_RIIII, sc_RR, sh_RR, sc_RRI, sh_RRI, sc_RRR, sh_RRR, sc_RIR, sh_RIR, sc_RIRI, sh_RIRI, sc_RRII, sh_RRII, sc_RRIII, sh_RRIII, sc_RIIRR, sh_RIIRR, sc_RIIIRR, sh_RIIIRR, sc_RIIR, sh_RIIR, sc_RRIIR, sh_RRIIR, sc_RRIIIR, sh_RRIIIR, sc_RRIIIIR, sh_RRIIIIR, sc_RRIR, sh_RRIR, and_imp, forall_eq, psc, sc_RIIIII, sh_RIIIII]
    exact ⟨100, by omega, may, 0, o3, o4, o5, o8, o9, by omega, by omega, by omega, hy, c, rfl, rfl, by omega, by omega⟩
  | 6, hI =>
    obtain ⟨may, r, o3, o4, o5, o8, o9, r0, r1, hm, hy, c, rfl, rfl, hk, hz⟩ := hI
    have X1 := CX_t hX c
    simp only [spL_isSetSo, vcL_isSetSo, mL_isSetSo, spX8_isPossible, spL_does, ac_ent, ldI, ldR, stI, stR, inc, cI, cJ, cN, bop, oAdd, oSub, oMul, oAnd, oOr, oXor, oShl, oShr, oUshr, oRem, oDiv, oMx, oMn, oI2l, oLcmp, oDup, oDup2, oDupX1, oPop, bIc, bI0, bNul, getI, getR, putI, putZ, putR, aLen, aldI, aldZ, aldJ, aldR, astI, astZ, astJ, astR, nwO, nwA, gsT, oObj, oCpy, oCln, oCst, rtI, rtZ, rtR, rtV, thr, call, callH, ac_hsel, ac_as, ac_rs, ac_cs, ac_rcv, List.map_cons, List.map_nil, List.length_cons, List.length_nil, List.replicate, List.append_nil, List.cons_append, List.nil_append, List.getElem?_cons_zero, List.getElem?_cons_succ, List.set, Nat.zero_add, Nat.add_zero, Nat.le_refl, Nat.reduceAdd, Nat.reduceSub, Nat.reduceLeDiff, Int.reduceLT, Int.reduceLE, Int.reduceNeg, Int.reduceEq, true_and, and_true, true_or, or_true, not_true_eq_false, not_false_eq_true, false_implies, true_implies, implies_true, reduceIte, and_self, Int.reduceAdd, Int.reduceMul, Int.reduceSub, eq_self, Int.add_zero, Int.zero_add, String.reduceEq, Nat.zero_le, Option.some.injEq, Sum.inl.injEq, Sum.inr.injEq, reduceCtorEq, Int.reduceToNat, Option.toList_some, Option.toList_none, ac_cs, ac_c10, ac_c11, ac_c12, ac_c13, ac_c14, ac_c15, ac_c16, ac_c17, sc_E, sh_E, sc_I, sh_I, sc_II, sh_II, sc_III, sh_III, sc_R, sh_R, sc_RI, sh_RI, sc_RII, sh_RII, sc_RIII, sh_RIII, sc_RIIII, sh_RIIII, sc_RR, sh_RR, sc_RRI, sh_RRI, sc_RRR, sh_RRR, sc_RIR, sh_RIR, sc_RIRI, sh_RIRI, sc_RRII, sh_RRII, sc_RRIII, sh_RRIII, sc_RIIRR, sh_RIIRR, sc_RIIIRR, sh_RIIIRR, sc_RIIR, sh_RIIR, sc_RRIIR, sh_RRIIR, sc_RRIIIR, sh_RRIIIR, sc_RRIIIIR, sh_RRIIIIR, sc_RRIR, sh_RRIR, X1, and_imp, forall_eq, psc, sc_RIIIII, sh_RIIIII]
    refine ⟨fun q => ⟨c, by omega, by omega⟩, fun q => ⟨⟨by omega, by omega⟩, ?_⟩⟩
    intro v g2 w2
    obtain ⟨rfl, c2⟩ := dz8 c w2
    simp only [ac_ent, ldI, ldR, stI, stR, inc, cI, cJ, cN, bop, oAdd, oSub, oMul, oAnd, oOr, oXor, oShl, oShr, oUshr, oRem, oDiv, oMx, oMn, oI2l, oLcmp, oDup, oDup2, oDupX1, oPop, bIc, bI0, bNul, getI, getR, putI, putZ, putR, aLen, aldI, aldZ, aldJ, aldR, astI, astZ, astJ, astR, nwO, nwA, gsT, oObj, oCpy, oCln, oCst, rtI, rtZ, rtR, rtV, thr, call, callH, ac_hsel, ac_as, ac_rs, ac_cs, ac_rcv, List.map_cons, List.map_nil, List.length_cons, List.length_nil, List.replicate, List.append_nil, List.cons_append, List.nil_append, List.getElem?_cons_zero, List.getElem?_cons_succ, List.set, Nat.zero_add, Nat.add_zero, Nat.le_refl, Nat.reduceAdd, Nat.reduceSub, Nat.reduceLeDiff, Int.reduceLT, Int.reduceLE, Int.reduceNeg, Int.reduceEq, true_and, and_true, true_or, or_true, not_true_eq_false, not_false_eq_true, false_implies, true_implies, implies_true, reduceIte, and_self, Int.reduceAdd, Int.reduceMul, Int.reduceSub, eq_self, Int.add_zero, Int.zero_add, String.reduceEq, Nat.zero_le, Option.some.injEq, Sum.inl.injEq, Sum.inr.injEq, reduceCtorEq, Int.reduceToNat, Option.toList_some, Option.toList_none, ac_cs, ac_c10, ac_c11, ac_c12, ac_c13, ac_c14, ac_c15, ac_c16, ac_c17, sc_E, sh_E, sc_I, sh_I, sc_II, sh_II, sc_III, sh_III, sc_R, sh_R, sc_RI, sh_RI, sc_RII, sh_RII, sc_RIII, sh_RIII, sc_RIIII, sh_RIIII, sc_RR, sh_RR, sc_RRI, sh_RRI, sc_RRR, sh_RRR, sc_RIR, sh_RIR, sc_RIRI, sh_RIRI, sc_RRII, sh_RRII, sc_RRIII, sh_RRIII, sc_RIIRR, sh_RIIRR, sc_RIIIRR, sh_RIIIRR, sc_RIIR, sh_RIIR, sc_RRIIR, sh_RRIIR, sc_RRIIIR, sh_RRIIIR, sc_RRIIIIR, sh_RRIIIIR, sc_RRIR, sh_RRIR, and_imp, forall_eq, psc, sc_RIIIII, sh_RIIIII]
    have nx : ∀ y, y = ac_tbz 2 r → ∃ m', m' < m ∧ ivL_isSetSo o set s h 7 m' [some (.inr (.inl o)), some (.inl set), some (.inl may), o3, o4, o5, some (.inl 1), some (.inl r), some (.inl (dA 8 set r 0 0 s)), o9] [.inl y] g2 (k + 28) (z + 395) := fun y hy2 =>
      ⟨(99 - 10 * r).toNat, by omega, may, r, o3, o4, o5, o9, r0, by omega, by omega, hy, c2, rfl, by rw [hy2], by omega, by omega⟩
    have t2 : ac_tbz 2 r = if r = 2 then 9 else if r = 4 then 50 else if r = 5 then 9 else 20 := rfl
    refine ⟨fun q2 => nx _ ?_, fun q2 => ⟨fun q3 => nx _ ?_, fun q3 => ⟨fun q4 => nx _ ?_, fun q4 => nx _ ?_⟩⟩⟩
    · rw [t2, q2]; rfl
    · rw [t2, if_pos q3]
    · rw [t2, if_neg q3, if_neg q2, if_pos q4]
    · rw [t2, if_neg q3, if_neg q2, if_neg q4]
  | 7, hI =>
    obtain ⟨may, r, o3, o4, o5, o9, r0, r1, hm, hy, c, rfl, rfl, hk, hz⟩ := hI
    have t1 : ac_tbz 1 r = if r = 2 then 1 else if r = 4 then 1 else 0 := rfl
    by_cases hp : psb s set
    · rw [if_pos hp] at hy
      subst hy
      simp only [spL_isSetSo, vcL_isSetSo, mL_isSetSo, spX8_isPossible, spL_does, ac_ent, ldI, ldR, stI, stR, inc, cI, cJ, cN, bop, oAdd, oSub, oMul, oAnd, oOr, oXor, oShl, oShr, oUshr, oRem, oDiv, oMx, oMn, oI2l, oLcmp, oDup, oDup2, oDupX1, oPop, bIc, bI0, bNul, getI, getR, putI, putZ, putR, aLen, aldI, aldZ, aldJ, aldR, astI, astZ, astJ, astR, nwO, nwA, gsT, oObj, oCpy, oCln, oCst, rtI, rtZ, rtR, rtV, thr, call, callH, ac_hsel, ac_as, ac_rs, ac_cs, ac_rcv, List.map_cons, List.map_nil, List.length_cons, List.length_nil, List.replicate, List.append_nil, List.cons_append, List.nil_append, List.getElem?_cons_zero, List.getElem?_cons_succ, List.set, Nat.zero_add, Nat.add_zero, Nat.le_refl, Nat.reduceAdd, Nat.reduceSub, Nat.reduceLeDiff, Int.reduceLT, Int.reduceLE, Int.reduceNeg, Int.reduceEq, true_and, and_true, true_or, or_true, not_true_eq_false, not_false_eq_true, false_implies, true_implies, implies_true, reduceIte, and_self, Int.reduceAdd, Int.reduceMul, Int.reduceSub, eq_self, Int.add_zero, Int.zero_add, String.reduceEq, Nat.zero_le, Option.some.injEq, Sum.inl.injEq, Sum.inr.injEq, reduceCtorEq, Int.reduceToNat, Option.toList_some, Option.toList_none, ac_cs, ac_c10, ac_c11, ac_c12, ac_c13, ac_c14, ac_c15, ac_c16, ac_c17, sc_E, sh_E, sc_I, sh_I, sc_II, sh_II, sc_III, sh_III, sc_R, sh_R, sc_RI, sh_RI, sc_RII, sh_RII, sc_RIII, sh_RIII, sc_RIIII, sh_RIIII, sc_RR, sh_RR, sc_RRI, sh_RRI, sc_RRR, sh_RRR, sc_RIR, sh_RIR, sc_RIRI, sh_RIRI, sc_RRII, sh_RRII, sc_RRIII, sh_RRIII, sc_RIIRR, sh_RIIRR, sc_RIIIRR, sh_RIIIRR, sc_RIIR, sh_RIIR, sc_RRIIR, sh_RRIIR, sc_RRIIIR, sh_RRIIIR, sc_RRIIIIR, sh_RRIIIIR, sc_RRIR, sh_RRIR, and_imp, forall_eq, psc, sc_RIIIII, sh_RIIIII]
      have nx : ∀ y, y = ac_tbz 1 r → ∃ m', m' < m ∧ ivL_isSetSo o set s h 8 m' [some (.inr (.inl o)), some (.inl set), some (.inl 1), o3, o4, o5, some (.inl 1), some (.inl r), some (.inl (dA 8 set r 0 0 s)), some (.inl (ac_tbz 2 r))] [.inl y, .inl (dA 8 set r 0 0 s)] g k z := fun y hy2 =>
        ⟨(98 - 10 * r).toNat, by omega, 1, r, o3, o4, o5, r0, r1, by omega, hp, by rw [if_pos hp], c, rfl, by rw [hy2], hk, hz⟩
      refine ⟨fun q2 => nx _ ?_, fun q2 => ⟨fun q3 => nx _ ?_, fun q3 => nx _ ?_⟩⟩
      · rw [t1, if_pos q2]
      · rw [t1, if_neg q2, if_pos q3]
      · rw [t1, if_neg q2, if_neg q3]
    · rw [if_neg hp] at hy
      subst hy
      rw [d8_n ha r0 r1 hp]
      simp only [spL_isSetSo, vcL_isSetSo, mL_isSetSo, spX8_isPossible, spL_does, ac_ent, ldI, ldR, stI, stR, inc, cI, cJ, cN, bop, oAdd, oSub, oMul, oAnd, oOr, oXor, oShl, oShr, oUshr, oRem, oDiv, oMx, oMn, oI2l, oLcmp, oDup, oDup2, oDupX1, oPop, bIc, bI0, bNul, getI, getR, putI, putZ, putR, aLen, aldI, aldZ, aldJ, aldR, astI, astZ, astJ, astR, nwO, nwA, gsT, oObj, oCpy, oCln, oCst, rtI, rtZ, rtR, rtV, thr, call, callH, ac_hsel, ac_as, ac_rs, ac_cs, ac_rcv, List.map_cons, List.map_nil, List.length_cons, List.length_nil, List.replicate, List.append_nil, List.cons_append, List.nil_append, List.getElem?_cons_zero, List.getElem?_cons_succ, List.set, Nat.zero_add, Nat.add_zero, Nat.le_refl, Nat.reduceAdd, Nat.reduceSub, Nat.reduceLeDiff, Int.reduceLT, Int.reduceLE, Int.reduceNeg, Int.reduceEq, true_and, and_true, true_or, or_true, not_true_eq_false, not_false_eq_true, false_implies, true_implies, implies_true, reduceIte, and_self, Int.reduceAdd, Int.reduceMul, Int.reduceSub, eq_self, Int.add_zero, Int.zero_add, String.reduceEq, Nat.zero_le, Option.some.injEq, Sum.inl.injEq, Sum.inr.injEq, reduceCtorEq, Int.reduceToNat, Option.toList_some, Option.toList_none, ac_cs, ac_c10, ac_c11, ac_c12, ac_c13, ac_c14, ac_c15, ac_c16, ac_c17, sc_E, sh_E, sc_I, sh_I, sc_II, sh_II, sc_III, sh_III, sc_R, sh_R, sc_RI, sh_RI, sc_RII, sh_RII, sc_RIII, sh_RIII, sc_RIIII, sh_RIIII, sc_RR, sh_RR, sc_RRI, sh_RRI, sc_RRR, sh_RRR, sc_RIR, sh_RIR, sc_RIRI, sh_RIRI, sc_RRII, sh_RRII, sc_RRIII, sh_RRIII, sc_RIIRR, sh_RIIRR, sc_RIIIRR, sh_RIIIRR, sc_RIIR, sh_RIIR, sc_RRIIR, sh_RRIIR, sc_RRIIIR, sh_RRIIIR, sc_RRIIIIR, sh_RRIIIIR, sc_RRIR, sh_RRIR, and_imp, forall_eq, psc, sc_RIIIII, sh_RIIIII]
      exact ⟨(97 - 10 * r).toNat, by omega, 0, r, o3, o4, o5, _, _, r0, r1, by omega, by rw [if_neg hp], c, rfl, rfl, hk, hz⟩
  | 8, hI =>
    obtain ⟨may, r, o3, o4, o5, r0, r1, hm, hp, hy, c, rfl, rfl, hk, hz⟩ := hI
    have rr := rls_rg s set r0 r1
    rw [d8_y ha r0 r1 hp]
    simp only [spL_isSetSo, vcL_isSetSo, mL_isSetSo, spX8_isPossible, spL_does, ac_ent, ldI, ldR, stI, stR, inc, cI, cJ, cN, bop, oAdd, oSub, oMul, oAnd, oOr, oXor, oShl, oShr, oUshr, oRem, oDiv, oMx, oMn, oI2l, oLcmp, oDup, oDup2, oDupX1, oPop, bIc, bI0, bNul, getI, getR, putI, putZ, putR, aLen, aldI, aldZ, aldJ, aldR, astI, astZ, astJ, astR, nwO, nwA, gsT, oObj, oCpy, oCln, oCst, rtI, rtZ, rtR, rtV, thr, call, callH, ac_hsel, ac_as, ac_rs, ac_cs, ac_rcv, List.map_cons, List.map_nil, List.length_cons, List.length_nil, List.replicate, List.append_nil, List.cons_append, List.nil_append, List.getElem?_cons_zero, List.getElem?_cons_succ, List.set, Nat.zero_add, Nat.add_zero, Nat.le_refl, Nat.reduceAdd, Nat.reduceSub, Nat.reduceLeDiff, Int.reduceLT, Int.reduceLE, Int.reduceNeg, Int.reduceEq, true_and, and_true, true_or, or_true, not_true_eq_false, not_false_eq_true, false_implies, true_implies, implies_true, reduceIte, and_self, Int.reduceAdd, Int.reduceMul, Int.reduceSub, eq_self, Int.add_zero, Int.zero_add, String.reduceEq, Nat.zero_le, Option.some.injEq, Sum.inl.injEq, Sum.inr.injEq, reduceCtorEq, Int.reduceToNat, Option.toList_some, Option.toList_none, ac_cs, ac_c10, ac_c11, ac_c12, ac_c13, ac_c14, ac_c15, ac_c16, ac_c17, sc_E, sh_E, sc_I, sh_I, sc_II, sh_II, sc_III, sh_III, sc_R, sh_R, sc_RI, sh_RI, sc_RII, sh_RII, sc_RIII, sh_RIII, sc_RIIII, sh_RIIII, sc_RR, sh_RR, sc_RRI, sh_RRI, sc_RRR, sh_RRR, sc_RIR, sh_RIR, sc_RIRI, sh_RIRI, sc_RRII, sh_RRII, sc_RRIII, sh_RRIII, sc_RIIRR, sh_RIIRR, sc_RIIIRR, sh_RIIIRR, sc_RIIR, sh_RIIR, sc_RRIIR, sh_RRIIR, sc_RRIIIR, sh_RRIIIR, sc_RRIIIIR, sh_RRIIIIR, sc_RRIR, sh_RRIR, and_imp, forall_eq, psc, sc_RIIIII, sh_RIIIII]
    refine ⟨fun q => by omega, fun q => ⟨fun q2 => by omega, fun q2 => ?_⟩⟩
    exact ⟨(97 - 10 * r).toNat, by omega, may, r, o3, o4, o5, _, _, r0, r1, by omega, hy, c, rfl, rfl, hk, hz⟩
  | 9, hI => exact hI.elim
  | 10, hI => exact hI.elim
  | 11, hI =>
    obtain ⟨may, r, o3, o4, o5, o8, o9, r0, r1, hm, hy, c, rfl, rfl, hk, hz⟩ := hI
    simp only [spL_isSetSo, vcL_isSetSo, mL_isSetSo, spX8_isPossible, spL_does, ac_ent, ldI, ldR, stI, stR, inc, cI, cJ, cN, bop, oAdd, oSub, oMul, oAnd, oOr, oXor, oShl, oShr, oUshr, oRem, oDiv, oMx, oMn, oI2l, oLcmp, oDup, oDup2, oDupX1, oPop, bIc, bI0, bNul, getI, getR, putI, putZ, putR, aLen, aldI, aldZ, aldJ, aldR, astI, astZ, astJ, astR, nwO, nwA, gsT, oObj, oCpy, oCln, oCst, rtI, rtZ, rtR, rtV, thr, call, callH, ac_hsel, ac_as, ac_rs, ac_cs, ac_rcv, List.map_cons, List.map_nil, List.length_cons, List.length_nil, List.replicate, List.append_nil, List.cons_append, List.nil_append, List.getElem?_cons_zero, List.getElem?_cons_succ, List.set, Nat.zero_add, Nat.add_zero, Nat.le_refl, Nat.reduceAdd, Nat.reduceSub, Nat.reduceLeDiff, Int.reduceLT, Int.reduceLE, Int.reduceNeg, Int.reduceEq, true_and, and_true, true_or, or_true, not_true_eq_false, not_false_eq_true, false_implies, true_implies, implies_true, reduceIte, and_self, Int.reduceAdd, Int.reduceMul, Int.reduceSub, eq_self, Int.add_zero, Int.zero_add, String.reduceEq, Nat.zero_le, Option.some.injEq, Sum.inl.injEq, Sum.inr.injEq, reduceCtorEq, Int.reduceToNat, Option.toList_some, Option.toList_none, ac_cs, ac_c10, ac_c11, ac_c12, ac_c13, ac_c14, ac_c15, ac_c16, ac_c17, sc_E, sh_E, sc_I, sh_I, sc_II, sh_II, sc_III, sh_III, sc_R, sh_R, sc_RI, sh_RI, sc_RII, sh_RII, sc_RIII, sh_RIII, sc_RIIII, sh_RIIII, sc_RR, sh_RR, sc_RRI, sh_RRI, sc_RRR, sh_RRR, sc_RIR, sh_RIR, sc_RIRI, sh_RIRI, sc_RRII, sh_RRII, sc_RRIII, sh_RRIII, sc_RIIRR, sh_RIIRR, sc_RIIIRR, sh_RIIIRR, sc_RIIR, sh_RIIR, sc_RRIIR, sh_RRIIR, sc_RRIIIR, sh_RRIIIR, sc_RRIIIIR, sh_RRIIIIR, sc_RRIR, sh_RRIR, and_imp, forall_eq, psc, sc_RIIIII, sh_RIIIII]
    exact ⟨(100 - 10 * (r + 1)).toNat, by omega, may, r + 1, o3, o4, o5, o8, o9, by omega, by omega, by omega, hy, c, by rw [wr_of (by omega) (by omega)], rfl, hk, hz⟩
  | j + 12, hI => exact hI.elim
