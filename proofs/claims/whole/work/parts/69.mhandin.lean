abbrev fullP (T T1 : mT) : Prop := T 25 0 = 60 ∨ (tdOT T ∧ T 15 0 = 20 ∧ hadT T1 = -1)
def codeH (T T1 : mT) (p c : Int) : Int := if 0 ≤ p ∧ p < 8 then (if -100 ≤ c ∧ c ≤ 1000 then (if tdOT T ∧ ¬ fullP T T1 then 0 else 3) else 2) else 1
def t1P (T T1 : mT) : Prop := (∀ k, k ≠ 12 → k ≠ 13 → k ≠ 14 → T1 k = T k) ∧ (tdOT T → ∀ j, 0 ≤ j → j < 6 → T1 12 j = tdRT T j)
theorem hand_cd {T T1 : mT} {s : sS} {p c : Int} (hT : TS T s) (hS : SI s) (h1 : t1P T T1) : cdHand p c s = codeH T T1 p c := by
  obtain ⟨td, -⟩ := TS_td hT hS
  have e18 := hT.2.2.2.2.1
  have e11 := hT.2.2.2.1.1
  have h18 := hS.2.2.2.2.2.2.2.2.2.2.2.1
  have h11 := hS.2.2.2.2.2.2.2.2.1
  have tr := tdD_r s
  unfold cdHand codeH
  by_cases q1 : 0 ≤ p ∧ p < 8
  · rw [if_pos q1, if_pos q1]
    by_cases q2 : -100 ≤ c ∧ c ≤ 1000
    · rw [if_pos q2, if_pos q2]
      by_cases q3 : tdOT T
      · have hh : hadT T1 = tdD s := TS_hd hT hS q3.1 (scr_12 h1.1) (h1.2 q3)
        have dr : drD s = (if tdD s = -1 then (if s 11 0 0 < 20 then s 11 0 0 else -1) else tdD s) := by unfold drD; rw [if_pos (td.mp q3)]
        by_cases q4 : s 18 0 0 < 60 ∧ drD s ≠ -1
        · rw [if_pos q4, if_pos]
          refine ⟨q3, ?_⟩
          rintro (w | ⟨-, w1, w2⟩)
          · omega
          · rw [hh] at w2
            rw [dr, if_pos w2, if_neg (by omega)] at q4
            exact q4.2 rfl
        · rw [if_neg q4, if_neg]
          rintro ⟨-, w⟩
          apply q4
          refine ⟨?_, ?_⟩
          · by_cases z : T 25 0 = 60
            · exact absurd (Or.inl z) w
            · omega
          · rw [dr]
            by_cases z : tdD s = -1
            · rw [if_pos z]
              by_cases z2 : s 11 0 0 < 20
              · rw [if_pos z2]; omega
              · exact absurd (Or.inr ⟨q3, by omega, by rw [hh]; exact z⟩) w
            · rw [if_neg z]; exact z
      · have dr : drD s = -1 := by unfold drD; rw [if_neg (fun w => q3 (td.mpr w))]
        rw [if_neg (fun w => w.2 dr), if_neg (fun w => q3 w.1)]
    · rw [if_neg q2, if_neg q2]
  · rw [if_neg q1, if_neg q1]
def h3P (T T3 : mT) (p c dn : Int) : Prop := T3 0 0 = 0 ∧ T3 25 0 = T 25 0 ∧ T3 11 0 = T 11 0 ∧ T 25 0 < 60 ∧ ∀ s, TS T s → SI s → TS T3 (FDR s) ∧ dn = drD s ∧ cdHand p c s = 0
def spX9_handIn : ac_Sp := sc_RII (fun m p c h => MW h m) (fun m p c h v h' => OKm m h h' v (cdHand p c) (fun s => s 18 0 0) (FHand p c)) (fun _ _ _ _ _ _ => False)
def ivX9_handIn (m p c : Int) (h : ac_H) (T : mT) : Nat → Nat → ac_S := fun j mm => match j with
  | 0 => fun L S g k z => mm = 100 ∧ ent0 [some (.inr (.inl m)), some (.inl p), some (.inl c), none, none, none, none] h L S g k z
  | 1 => fun L S g k z => mm = 99 ∧ ∃ T1, MT h g m T1 ∧ t1P T T1 ∧ L = [some (.inr (.inl m)), some (.inl p), some (.inl c), some (.inl (b01 (tdOT T))), none, none, none] ∧ S = [.inl (b01 (fullP T T1))] ∧ k = 0 ∧ z = 0
  | 2 => fun L S g k z => mm = 98 ∧ ∃ T1 a, MT h g m T1 ∧ t1P T T1 ∧ L = [some (.inr (.inl m)), some (.inl p), some (.inl c), some (.inl (b01 (tdOT T))), some (.inl a), none, none] ∧ S = [.inl (codeH T T1 p c), .inr (.inl m)] ∧ k = 0 ∧ z = 0
  | 3 => fun L S g k z => mm = 97 ∧ ∃ T3 x y dn, MT h g m T3 ∧ h3P T T3 p c dn ∧ L = [some (.inr (.inl m)), some (.inl p), some (.inl c), x, y, some (.inl dn), none] ∧ S = [] ∧ k = 0 ∧ z = 0
  | 4 => fun L S g k z => ∃ (i : Nat) (T3 T' : mT) (x y : Option ac_V) (dn : Int), (i : Int) ≤ T 11 0 ∧ mm + i = 60 ∧ MT h g m T' ∧ h3P T T3 p c dn ∧ (∀ k, (k < 26 ∨ 31 < k) → T' k = T3 k) ∧ T' 26 = fu (T3 26) (T 25 0) p ∧ T' 29 = fu (T3 29) (T 25 0) c ∧ T' 30 = fu (T3 30) (T 25 0) dn ∧ T' 31 = fu (T3 31) (T 25 0) (-3) ∧ T' 28 = fu (T3 28) (T 25 0) (T 11 0) ∧ (∀ j : Int, 0 ≤ j → j < i → T' 27 (60 * T 25 0 + j) = T3 10 j) ∧ (∀ j, j < 60 * T 25 0 → T' 27 j = T3 27 j) ∧ L = [some (.inr (.inl m)), some (.inl p), some (.inl c), x, y, some (.inl dn), some (.inl i)] ∧ S = [] ∧ k = 0 ∧ z = 0
  | _ => fun _ _ _ _ _ => False
set_option maxRecDepth 100000 in
set_option maxHeartbeats 4000000 in
theorem mtX9_handIn {G : ac_G} {l : Launch} : ac_Met G l yX9_handIn mX9_handIn 5 123 0 0 spX9_handIn := by
  refine ac_meth (pcs := pcX9_handIn) (B := fun P X J j => vcX9_handIn spX9_hasToday spX9_had spX9_isPlayer spX9_in spX9_holds spX9_grows P X J j) (by decide) rfl rfl rfl (fun P X J hJ j => sdX9_handIn mtX9_hasToday mtX9_had mtX9_isPlayer mtX9_in mtX9_holds mtX9_grows P X J hJ j) (hp_RII (by decide)) fun As h hp => ?_
  obtain ⟨m, p, c, rfl, hp⟩ := sh_RII_inv hp
  have hW : MW h m := hp
  obtain ⟨T, hM, hI⟩ := MW_I hp
  obtain ⟨hK0, s0, hT0, hS0⟩ := hp
  rw [mt_T hM] at hT0
  have hI3 := hI.2.2.1
  have hI4 := hI.2.2.2.1
  have hI5 := hI.2.2.2.2.1
  have hI2 := hI.2.1
  refine ⟨ivX9_handIn m p c h T, 100, ⟨rfl, rfl, rfl, rfl, rfl, rfl⟩, fun j mm L S g k z hJ => ?_⟩
  match j, hJ with
  | 0, hJ =>
    obtain ⟨hm, rfl, rfl, rfl, rfl, rfl⟩ := hJ
    simp only [spX9_handIn, vcX9_handIn, mX9_handIn, spX9_hasToday, spX9_had, spX9_isPlayer, spX9_in, spX9_holds, spX9_grows, ac_ent, ldI, ldR, stI, stR, inc, cI, cJ, cN, bop, oAdd, oSub, oMul, oAnd, oOr, oXor, oShl, oShr, oUshr, oRem, oDiv, oMx, oMn, oI2l, oLcmp, oDup, oDup2, oDupX1, oPop, bIc, bI0, bNul, getI, getR, putI, putZ, putR, aLen, aldI, aldZ, aldJ, aldR, astI, astZ, astJ, astR, nwO, nwA, gsT, oObj, oCpy, oCln, oCst, rtI, rtZ, rtR, rtV, thr, call, callH, ac_hsel, ac_as, ac_rs, ac_cs, ac_rcv, List.map_cons, List.map_nil, List.length_cons, List.length_nil, List.replicate, List.append_nil, List.cons_append, List.nil_append, List.getElem?_cons_zero, List.getElem?_cons_succ, List.set, Nat.zero_add, Nat.add_zero, Nat.le_refl, Nat.reduceAdd, Nat.reduceSub, Nat.reduceLeDiff, Int.reduceLT, Int.reduceLE, Int.reduceNeg, Int.reduceEq, true_and, and_true, true_or, or_true, not_true_eq_false, not_false_eq_true, false_implies, true_implies, implies_true, reduceIte, and_self, Int.reduceAdd, Int.reduceMul, Int.reduceSub, eq_self, Int.add_zero, Int.zero_add, String.reduceEq, Nat.zero_le, Option.some.injEq, Sum.inl.injEq, Sum.inr.injEq, reduceCtorEq, Int.reduceToNat, Option.toList_some, Option.toList_none, ac_cs, ac_c10, ac_c11, ac_c12, ac_c13, ac_c14, ac_c15, ac_c16, ac_c17, sc_E, sh_E, sc_I, sh_I, sc_II, sh_II, sc_III, sh_III, sc_R, sh_R, sc_RI, sh_RI, sc_RII, sh_RII, sc_RIII, sh_RIII, sc_RIIII, sh_RIIII, sc_RR, sh_RR, sc_RRI, sh_RRI, sc_RRR, sh_RRR, sc_RIR, sh_RIR, sc_RIRI, sh_RIRI, sc_RRII, sh_RRII, sc_RRIII, sh_RRIII, sc_RIIRR, sh_RIIRR, sc_RIIIRR, sh_RIIIRR, sc_RIIR, sh_RIIR, sc_RRIIR, sh_RRIIR, sc_RRIIIR, sh_RRIIIR, sc_RRIIIIR, sh_RRIIIIR, sc_RRIR, sh_RRIR, mt_k hM, mt_K hM, mt_T hM, hI]
    rintro v h1 ⟨T1, hx, ho, h12, rfl⟩
    have t1 : t1P T T1 := ⟨ho, h12⟩
    have e25 : T1 25 = T 25 := ho 25 (by decide) (by decide) (by decide)
    have e15 : T1 15 = T 15 := ho 15 (by decide) (by decide) (by decide)
    have e7 : T1 7 = T 7 := ho 7 (by decide) (by decide) (by decide)
    have hIx : MI T1 := MI_sc (scr_12 ho) hI
    simp only [b01_0, mt_k hx, mr_15 hx, mr_25 hx, mt_K hx, mt_T hx, hIx, e25, e15, e7, ac_ent, ldI, ldR, stI, stR, inc, cI, cJ, cN, bop, oAdd, oSub, oMul, oAnd, oOr, oXor, oShl, oShr, oUshr, oRem, oDiv, oMx, oMn, oI2l, oLcmp, oDup, oDup2, oDupX1, oPop, bIc, bI0, bNul, getI, getR, putI, putZ, putR, aLen, aldI, aldZ, aldJ, aldR, astI, astZ, astJ, astR, nwO, nwA, gsT, oObj, oCpy, oCln, oCst, rtI, rtZ, rtR, rtV, thr, call, callH, ac_hsel, ac_as, ac_rs, ac_cs, ac_rcv, List.map_cons, List.map_nil, List.length_cons, List.length_nil, List.replicate, List.append_nil, List.cons_append, List.nil_append, List.getElem?_cons_zero, List.getElem?_cons_succ, List.set, Nat.zero_add, Nat.add_zero, Nat.le_refl, Nat.reduceAdd, Nat.reduceSub, Nat.reduceLeDiff, Int.reduceLT, Int.reduceLE, Int.reduceNeg, Int.reduceEq, true_and, and_true, true_or, or_true, not_true_eq_false, not_false_eq_true, false_implies, true_implies, implies_true, reduceIte, and_self, Int.reduceAdd, Int.reduceMul, Int.reduceSub, eq_self, Int.add_zero, Int.zero_add, String.reduceEq, Nat.zero_le, Option.some.injEq, Sum.inl.injEq, Sum.inr.injEq, reduceCtorEq, Int.reduceToNat, Option.toList_some, Option.toList_none, ac_cs, ac_c10, ac_c11, ac_c12, ac_c13, ac_c14, ac_c15, ac_c16, ac_c17, sc_E, sh_E, sc_I, sh_I, sc_II, sh_II, sc_III, sh_III, sc_R, sh_R, sc_RI, sh_RI, sc_RII, sh_RII, sc_RIII, sh_RIII, sc_RIIII, sh_RIIII, sc_RR, sh_RR, sc_RRI, sh_RRI, sc_RRR, sh_RRR, sc_RIR, sh_RIR, sc_RIRI, sh_RIRI, sc_RRII, sh_RRII, sc_RRIII, sh_RRIII, sc_RIIRR, sh_RIIRR, sc_RIIIRR, sh_RIIIRR, sc_RIIR, sh_RIIR, sc_RRIIR, sh_RRIIR, sc_RRIIIR, sh_RRIIIR, sc_RRIIIIR, sh_RRIIIIR, sc_RRIR, sh_RRIR]
    refine ⟨fun q => ⟨99, by omega, rfl, T1, hx, t1, rfl, by rw [b01_t (Or.inl q)], rfl, rfl⟩, fun q => ⟨fun q2 => ⟨99, by omega, rfl, T1, hx, t1, rfl, by rw [b01_f (fun w => w.elim q (fun w => q2 w.1))], rfl, rfl⟩, fun q2 => ⟨fun q3 => ⟨(Decidable.not_not.mp q2).1, ?_⟩, fun q3 => ⟨99, by omega, rfl, T1, hx, t1, rfl, by rw [b01_f (fun w => w.elim q (fun w => q3 w.2.1))], rfl, rfl⟩⟩⟩⟩
    rintro v h2 ⟨rfl, rfl⟩
    simp only [ac_ent, ldI, ldR, stI, stR, inc, cI, cJ, cN, bop, oAdd, oSub, oMul, oAnd, oOr, oXor, oShl, oShr, oUshr, oRem, oDiv, oMx, oMn, oI2l, oLcmp, oDup, oDup2, oDupX1, oPop, bIc, bI0, bNul, getI, getR, putI, putZ, putR, aLen, aldI, aldZ, aldJ, aldR, astI, astZ, astJ, astR, nwO, nwA, gsT, oObj, oCpy, oCln, oCst, rtI, rtZ, rtR, rtV, thr, call, callH, ac_hsel, ac_as, ac_rs, ac_cs, ac_rcv, List.map_cons, List.map_nil, List.length_cons, List.length_nil, List.replicate, List.append_nil, List.cons_append, List.nil_append, List.getElem?_cons_zero, List.getElem?_cons_succ, List.set, Nat.zero_add, Nat.add_zero, Nat.le_refl, Nat.reduceAdd, Nat.reduceSub, Nat.reduceLeDiff, Int.reduceLT, Int.reduceLE, Int.reduceNeg, Int.reduceEq, true_and, and_true, true_or, or_true, not_true_eq_false, not_false_eq_true, false_implies, true_implies, implies_true, reduceIte, and_self, Int.reduceAdd, Int.reduceMul, Int.reduceSub, eq_self, Int.add_zero, Int.zero_add, String.reduceEq, Nat.zero_le, Option.some.injEq, Sum.inl.injEq, Sum.inr.injEq, reduceCtorEq, Int.reduceToNat, Option.toList_some, Option.toList_none, ac_cs, ac_c10, ac_c11, ac_c12, ac_c13, ac_c14, ac_c15, ac_c16, ac_c17, sc_E, sh_E, sc_I, sh_I, sc_II, sh_II, sc_III, sh_III, sc_R, sh_R, sc_RI, sh_RI, sc_RII, sh_RII, sc_RIII, sh_RIII, sc_RIIII, sh_RIIII, sc_RR, sh_RR, sc_RRI, sh_RRI, sc_RRR, sh_RRR, sc_RIR, sh_RIR, sc_RIRI, sh_RIRI, sc_RRII, sh_RRII, sc_RRIII, sh_RRIII, sc_RIIRR, sh_RIIRR, sc_RIIIRR, sh_RIIIRR, sc_RIIR, sh_RIIR, sc_RRIIR, sh_RRIIR, sc_RRIIIR, sh_RRIIIR, sc_RRIIIIR, sh_RRIIIIR, sc_RRIR, sh_RRIR]
    exact ⟨fun q4 => ⟨99, by omega, rfl, T1, hx, t1, rfl, by rw [b01_t (Or.inr ⟨Decidable.not_not.mp q2, q3, q4⟩)], rfl, rfl⟩, fun q4 => ⟨99, by omega, rfl, T1, hx, t1, rfl, by rw [b01_f (fun w => w.elim q (fun w => q4 w.2.2))], rfl, rfl⟩⟩
  | 1, hJ =>
    obtain ⟨hm, T1, hx, t1, rfl, rfl, rfl, rfl⟩ := hJ
    simp only [spX9_handIn, vcX9_handIn, mX9_handIn, spX9_hasToday, spX9_had, spX9_isPlayer, spX9_in, spX9_holds, spX9_grows, ac_ent, ldI, ldR, stI, stR, inc, cI, cJ, cN, bop, oAdd, oSub, oMul, oAnd, oOr, oXor, oShl, oShr, oUshr, oRem, oDiv, oMx, oMn, oI2l, oLcmp, oDup, oDup2, oDupX1, oPop, bIc, bI0, bNul, getI, getR, putI, putZ, putR, aLen, aldI, aldZ, aldJ, aldR, astI, astZ, astJ, astR, nwO, nwA, gsT, oObj, oCpy, oCln, oCst, rtI, rtZ, rtR, rtV, thr, call, callH, ac_hsel, ac_as, ac_rs, ac_cs, ac_rcv, List.map_cons, List.map_nil, List.length_cons, List.length_nil, List.replicate, List.append_nil, List.cons_append, List.nil_append, List.getElem?_cons_zero, List.getElem?_cons_succ, List.set, Nat.zero_add, Nat.add_zero, Nat.le_refl, Nat.reduceAdd, Nat.reduceSub, Nat.reduceLeDiff, Int.reduceLT, Int.reduceLE, Int.reduceNeg, Int.reduceEq, true_and, and_true, true_or, or_true, not_true_eq_false, not_false_eq_true, false_implies, true_implies, implies_true, reduceIte, and_self, Int.reduceAdd, Int.reduceMul, Int.reduceSub, eq_self, Int.add_zero, Int.zero_add, String.reduceEq, Nat.zero_le, Option.some.injEq, Sum.inl.injEq, Sum.inr.injEq, reduceCtorEq, Int.reduceToNat, Option.toList_some, Option.toList_none, ac_cs, ac_c10, ac_c11, ac_c12, ac_c13, ac_c14, ac_c15, ac_c16, ac_c17, sc_E, sh_E, sc_I, sh_I, sc_II, sh_II, sc_III, sh_III, sc_R, sh_R, sc_RI, sh_RI, sc_RII, sh_RII, sc_RIII, sh_RIII, sc_RIIII, sh_RIIII, sc_RR, sh_RR, sc_RRI, sh_RRI, sc_RRR, sh_RRR, sc_RIR, sh_RIR, sc_RIRI, sh_RIRI, sc_RRII, sh_RRII, sc_RRIII, sh_RRIII, sc_RIIRR, sh_RIIRR, sc_RIIIRR, sh_RIIIRR, sc_RIIR, sh_RIIR, sc_RRIIR, sh_RRIIR, sc_RRIIIR, sh_RRIIIR, sc_RRIIIIR, sh_RRIIIIR, sc_RRIR, sh_RRIR]
    rintro v h1 ⟨rfl, rfl⟩
    simp only [b01_0, ac_ent, ldI, ldR, stI, stR, inc, cI, cJ, cN, bop, oAdd, oSub, oMul, oAnd, oOr, oXor, oShl, oShr, oUshr, oRem, oDiv, oMx, oMn, oI2l, oLcmp, oDup, oDup2, oDupX1, oPop, bIc, bI0, bNul, getI, getR, putI, putZ, putR, aLen, aldI, aldZ, aldJ, aldR, astI, astZ, astJ, astR, nwO, nwA, gsT, oObj, oCpy, oCln, oCst, rtI, rtZ, rtR, rtV, thr, call, callH, ac_hsel, ac_as, ac_rs, ac_cs, ac_rcv, List.map_cons, List.map_nil, List.length_cons, List.length_nil, List.replicate, List.append_nil, List.cons_append, List.nil_append, List.getElem?_cons_zero, List.getElem?_cons_succ, List.set, Nat.zero_add, Nat.add_zero, Nat.le_refl, Nat.reduceAdd, Nat.reduceSub, Nat.reduceLeDiff, Int.reduceLT, Int.reduceLE, Int.reduceNeg, Int.reduceEq, true_and, and_true, true_or, or_true, not_true_eq_false, not_false_eq_true, false_implies, true_implies, implies_true, reduceIte, and_self, Int.reduceAdd, Int.reduceMul, Int.reduceSub, eq_self, Int.add_zero, Int.zero_add, String.reduceEq, Nat.zero_le, Option.some.injEq, Sum.inl.injEq, Sum.inr.injEq, reduceCtorEq, Int.reduceToNat, Option.toList_some, Option.toList_none, ac_cs, ac_c10, ac_c11, ac_c12, ac_c13, ac_c14, ac_c15, ac_c16, ac_c17, sc_E, sh_E, sc_I, sh_I, sc_II, sh_II, sc_III, sh_III, sc_R, sh_R, sc_RI, sh_RI, sc_RII, sh_RII, sc_RIII, sh_RIII, sc_RIIII, sh_RIIII, sc_RR, sh_RR, sc_RRI, sh_RRI, sc_RRR, sh_RRR, sc_RIR, sh_RIR, sc_RIRI, sh_RIRI, sc_RRII, sh_RRII, sc_RRIII, sh_RRIII, sc_RIIRR, sh_RIIRR, sc_RIIIRR, sh_RIIIRR, sc_RIIR, sh_RIIR, sc_RRIIR, sh_RRIIR, sc_RRIIIR, sh_RRIIIR, sc_RRIIIIR, sh_RRIIIIR, sc_RRIR, sh_RRIR]
    refine ⟨fun e => ⟨98, by omega, rfl, T1, _, hx, t1, rfl, by rw [codeH, if_neg e], rfl, rfl⟩, fun e => ?_⟩
    rintro v h2 ⟨rfl, rfl⟩
    simp only [b01_0, ac_ent, ldI, ldR, stI, stR, inc, cI, cJ, cN, bop, oAdd, oSub, oMul, oAnd, oOr, oXor, oShl, oShr, oUshr, oRem, oDiv, oMx, oMn, oI2l, oLcmp, oDup, oDup2, oDupX1, oPop, bIc, bI0, bNul, getI, getR, putI, putZ, putR, aLen, aldI, aldZ, aldJ, aldR, astI, astZ, astJ, astR, nwO, nwA, gsT, oObj, oCpy, oCln, oCst, rtI, rtZ, rtR, rtV, thr, call, callH, ac_hsel, ac_as, ac_rs, ac_cs, ac_rcv, List.map_cons, List.map_nil, List.length_cons, List.length_nil, List.replicate, List.append_nil, List.cons_append, List.nil_append, List.getElem?_cons_zero, List.getElem?_cons_succ, List.set, Nat.zero_add, Nat.add_zero, Nat.le_refl, Nat.reduceAdd, Nat.reduceSub, Nat.reduceLeDiff, Int.reduceLT, Int.reduceLE, Int.reduceNeg, Int.reduceEq, true_and, and_true, true_or, or_true, not_true_eq_false, not_false_eq_true, false_implies, true_implies, implies_true, reduceIte, and_self, Int.reduceAdd, Int.reduceMul, Int.reduceSub, eq_self, Int.add_zero, Int.zero_add, String.reduceEq, Nat.zero_le, Option.some.injEq, Sum.inl.injEq, Sum.inr.injEq, reduceCtorEq, Int.reduceToNat, Option.toList_some, Option.toList_none, ac_cs, ac_c10, ac_c11, ac_c12, ac_c13, ac_c14, ac_c15, ac_c16, ac_c17, sc_E, sh_E, sc_I, sh_I, sc_II, sh_II, sc_III, sh_III, sc_R, sh_R, sc_RI, sh_RI, sc_RII, sh_RII, sc_RIII, sh_RIII, sc_RIIII, sh_RIIII, sc_RR, sh_RR, sc_RRI, sh_RRI, sc_RRR, sh_RRR, sc_RIR, sh_RIR, sc_RIRI, sh_RIRI, sc_RRII, sh_RRII, sc_RRIII, sh_RRIII, sc_RIIRR, sh_RIIRR, sc_RIIIRR, sh_RIIIRR, sc_RIIR, sh_RIIR, sc_RRIIR, sh_RRIIR, sc_RRIIIR, sh_RRIIIR, sc_RRIIIIR, sh_RRIIIIR, sc_RRIR, sh_RRIR]
    refine ⟨fun e2 => ⟨98, by omega, rfl, T1, _, hx, t1, rfl, by rw [codeH, if_pos (Decidable.not_not.mp e), if_neg e2], rfl, rfl⟩, fun e2 => ⟨fun e3 => ⟨98, by omega, rfl, T1, _, hx, t1, rfl, by rw [codeH, if_pos (Decidable.not_not.mp e), if_pos (Decidable.not_not.mp e2), if_neg (fun w => e3 w.1)], rfl, rfl⟩, fun e3 => ⟨fun e4 => ⟨98, by omega, rfl, T1, _, hx, t1, rfl, by rw [codeH, if_pos (Decidable.not_not.mp e), if_pos (Decidable.not_not.mp e2), if_pos ⟨Decidable.not_not.mp e3, e4⟩], rfl, rfl⟩, fun e4 => ⟨98, by omega, rfl, T1, _, hx, t1, rfl, by rw [codeH, if_pos (Decidable.not_not.mp e), if_pos (Decidable.not_not.mp e2), if_neg (fun w => e4 w.2)], rfl, rfl⟩⟩⟩⟩
  | 2, hJ =>
    obtain ⟨hm, T1, a, hx, t1, rfl, rfl, rfl, rfl⟩ := hJ
    simp only [spX9_handIn, vcX9_handIn, mX9_handIn, spX9_hasToday, spX9_had, spX9_isPlayer, spX9_in, spX9_holds, spX9_grows, ac_ent, ldI, ldR, stI, stR, inc, cI, cJ, cN, bop, oAdd, oSub, oMul, oAnd, oOr, oXor, oShl, oShr, oUshr, oRem, oDiv, oMx, oMn, oI2l, oLcmp, oDup, oDup2, oDupX1, oPop, bIc, bI0, bNul, getI, getR, putI, putZ, putR, aLen, aldI, aldZ, aldJ, aldR, astI, astZ, astJ, astR, nwO, nwA, gsT, oObj, oCpy, oCln, oCst, rtI, rtZ, rtR, rtV, thr, call, callH, ac_hsel, ac_as, ac_rs, ac_cs, ac_rcv, List.map_cons, List.map_nil, List.length_cons, List.length_nil, List.replicate, List.append_nil, List.cons_append, List.nil_append, List.getElem?_cons_zero, List.getElem?_cons_succ, List.set, Nat.zero_add, Nat.add_zero, Nat.le_refl, Nat.reduceAdd, Nat.reduceSub, Nat.reduceLeDiff, Int.reduceLT, Int.reduceLE, Int.reduceNeg, Int.reduceEq, true_and, and_true, true_or, or_true, not_true_eq_false, not_false_eq_true, false_implies, true_implies, implies_true, reduceIte, and_self, Int.reduceAdd, Int.reduceMul, Int.reduceSub, eq_self, Int.add_zero, Int.zero_add, String.reduceEq, Nat.zero_le, Option.some.injEq, Sum.inl.injEq, Sum.inr.injEq, reduceCtorEq, Int.reduceToNat, Option.toList_some, Option.toList_none, ac_cs, ac_c10, ac_c11, ac_c12, ac_c13, ac_c14, ac_c15, ac_c16, ac_c17, sc_E, sh_E, sc_I, sh_I, sc_II, sh_II, sc_III, sh_III, sc_R, sh_R, sc_RI, sh_RI, sc_RII, sh_RII, sc_RIII, sh_RIII, sc_RIIII, sh_RIIII, sc_RR, sh_RR, sc_RRI, sh_RRI, sc_RRR, sh_RRR, sc_RIR, sh_RIR, sc_RIRI, sh_RIRI, sc_RRII, sh_RRII, sc_RRIII, sh_RRIII, sc_RIIRR, sh_RIIRR, sc_RIIIRR, sh_RIIIRR, sc_RIIR, sh_RIIR, sc_RRIIR, sh_RRIIR, sc_RRIIIR, sh_RRIIIR, sc_RRIIIIR, sh_RRIIIIR, sc_RRIR, sh_RRIR, mt_k hx, mt_K hx, mt_T hx]
    rintro v h1 ⟨hy, rfl⟩
    simp only [b01_0, ac_ent, ldI, ldR, stI, stR, inc, cI, cJ, cN, bop, oAdd, oSub, oMul, oAnd, oOr, oXor, oShl, oShr, oUshr, oRem, oDiv, oMx, oMn, oI2l, oLcmp, oDup, oDup2, oDupX1, oPop, bIc, bI0, bNul, getI, getR, putI, putZ, putR, aLen, aldI, aldZ, aldJ, aldR, astI, astZ, astJ, astR, nwO, nwA, gsT, oObj, oCpy, oCln, oCst, rtI, rtZ, rtR, rtV, thr, call, callH, ac_hsel, ac_as, ac_rs, ac_cs, ac_rcv, List.map_cons, List.map_nil, List.length_cons, List.length_nil, List.replicate, List.append_nil, List.cons_append, List.nil_append, List.getElem?_cons_zero, List.getElem?_cons_succ, List.set, Nat.zero_add, Nat.add_zero, Nat.le_refl, Nat.reduceAdd, Nat.reduceSub, Nat.reduceLeDiff, Int.reduceLT, Int.reduceLE, Int.reduceNeg, Int.reduceEq, true_and, and_true, true_or, or_true, not_true_eq_false, not_false_eq_true, false_implies, true_implies, implies_true, reduceIte, and_self, Int.reduceAdd, Int.reduceMul, Int.reduceSub, eq_self, Int.add_zero, Int.zero_add, String.reduceEq, Nat.zero_le, Option.some.injEq, Sum.inl.injEq, Sum.inr.injEq, reduceCtorEq, Int.reduceToNat, Option.toList_some, Option.toList_none, ac_cs, ac_c10, ac_c11, ac_c12, ac_c13, ac_c14, ac_c15, ac_c16, ac_c17, sc_E, sh_E, sc_I, sh_I, sc_II, sh_II, sc_III, sh_III, sc_R, sh_R, sc_RI, sh_RI, sc_RII, sh_RII, sc_RIII, sh_RIII, sc_RIIII, sh_RIIII, sc_RR, sh_RR, sc_RRI, sh_RRI, sc_RRR, sh_RRR, sc_RIR, sh_RIR, sc_RIRI, sh_RIRI, sc_RRII, sh_RRII, sc_RRIII, sh_RRIII, sc_RIIRR, sh_RIIRR, sc_RIIIRR, sh_RIIIRR, sc_RIIR, sh_RIIR, sc_RRIIR, sh_RRIIR, sc_RRIIIR, sh_RRIIIR, sc_RRIIIIR, sh_RRIIIIR, sc_RRIR, sh_RRIR]
    have sc := scr_12 t1.1
    refine ⟨fun e => ?_, fun e => ?_⟩
    · refine OK_0 (mt_tr hx hy) fun s hT hS => ?_
      rw [mt_T hM] at hT
      rw [hand_cd hT hS t1]
      exact ⟨tu_s, fun q => absurd q e, fun _ => TS_0 (TS_sc sc hT)⟩
    have e0 : codeH T T1 p c = 0 := Decidable.not_not.mp e
    rw [e0] at hy
    have ok : tdOT T ∧ ¬ fullP T T1 := by
      unfold codeH at e0
      split at e0
      · split at e0
        · split at e0
          · assumption
          · exact absurd e0 (by decide)
        · exact absurd e0 (by decide)
      · exact absurd e0 (by decide)
    obtain ⟨td, nf⟩ := ok
    have r60 : T 25 0 < 60 := by
      by_cases z : T 25 0 = 60
      · exact absurd (Or.inl z) nf
      · omega
    have e7 : T1 7 = T 7 := sc 7 (by decide)
    have e8 : T1 8 = T 8 := sc 8 (by decide)
    have e15 : T1 15 = T 15 := sc 15 (by decide)
    have w7 : 0 < tu T1 0 0 0 7 0 := by rw [tu_k (by decide), e7]; exact td.1
    have hIx : MI (tu T1 0 0 0) := MI_sc (scr_tr sc scr_0) hI
    have hh0 : hadT (tu T1 0 0 0) = hadT T1 := by unfold hadT hdT; simp only [tu_k, tu_s, ne_eq, Nat.reduceEqDiff, not_false_eq_true]
    simp only [mt_k hy, mt_K hy, mt_T hy, w7, hIx, hh0, ac_ent, ldI, ldR, stI, stR, inc, cI, cJ, cN, bop, oAdd, oSub, oMul, oAnd, oOr, oXor, oShl, oShr, oUshr, oRem, oDiv, oMx, oMn, oI2l, oLcmp, oDup, oDup2, oDupX1, oPop, bIc, bI0, bNul, getI, getR, putI, putZ, putR, aLen, aldI, aldZ, aldJ, aldR, astI, astZ, astJ, astR, nwO, nwA, gsT, oObj, oCpy, oCln, oCst, rtI, rtZ, rtR, rtV, thr, call, callH, ac_hsel, ac_as, ac_rs, ac_cs, ac_rcv, List.map_cons, List.map_nil, List.length_cons, List.length_nil, List.replicate, List.append_nil, List.cons_append, List.nil_append, List.getElem?_cons_zero, List.getElem?_cons_succ, List.set, Nat.zero_add, Nat.add_zero, Nat.le_refl, Nat.reduceAdd, Nat.reduceSub, Nat.reduceLeDiff, Int.reduceLT, Int.reduceLE, Int.reduceNeg, Int.reduceEq, true_and, and_true, true_or, or_true, not_true_eq_false, not_false_eq_true, false_implies, true_implies, implies_true, reduceIte, and_self, Int.reduceAdd, Int.reduceMul, Int.reduceSub, eq_self, Int.add_zero, Int.zero_add, String.reduceEq, Nat.zero_le, Option.some.injEq, Sum.inl.injEq, Sum.inr.injEq, reduceCtorEq, Int.reduceToNat, Option.toList_some, Option.toList_none, ac_cs, ac_c10, ac_c11, ac_c12, ac_c13, ac_c14, ac_c15, ac_c16, ac_c17, sc_E, sh_E, sc_I, sh_I, sc_II, sh_II, sc_III, sh_III, sc_R, sh_R, sc_RI, sh_RI, sc_RII, sh_RII, sc_RIII, sh_RIII, sc_RIIII, sh_RIIII, sc_RR, sh_RR, sc_RRI, sh_RRI, sc_RRR, sh_RRR, sc_RIR, sh_RIR, sc_RIRI, sh_RIRI, sc_RRII, sh_RRII, sc_RRIII, sh_RRIII, sc_RIIRR, sh_RIIRR, sc_RIIIRR, sh_RIIIRR, sc_RIIR, sh_RIIR, sc_RRIIR, sh_RRIIR, sc_RRIIIR, sh_RRIIIR, sc_RRIIIIR, sh_RRIIIIR, sc_RRIR, sh_RRIR]
    rintro v h2 ⟨rfl, rfl⟩
    simp only [mt_k hy, mr_15 hy, tu_k, tu_s, ne_eq, Nat.reduceEqDiff, not_false_eq_true, up_k, ast_k, up_kf, ast_kf, ne_eq, Nat.reduceEqDiff, not_false_eq_true, e15, ac_ent, ldI, ldR, stI, stR, inc, cI, cJ, cN, bop, oAdd, oSub, oMul, oAnd, oOr, oXor, oShl, oShr, oUshr, oRem, oDiv, oMx, oMn, oI2l, oLcmp, oDup, oDup2, oDupX1, oPop, bIc, bI0, bNul, getI, getR, putI, putZ, putR, aLen, aldI, aldZ, aldJ, aldR, astI, astZ, astJ, astR, nwO, nwA, gsT, oObj, oCpy, oCln, oCst, rtI, rtZ, rtR, rtV, thr, call, callH, ac_hsel, ac_as, ac_rs, ac_cs, ac_rcv, List.map_cons, List.map_nil, List.length_cons, List.length_nil, List.replicate, List.append_nil, List.cons_append, List.nil_append, List.getElem?_cons_zero, List.getElem?_cons_succ, List.set, Nat.zero_add, Nat.add_zero, Nat.le_refl, Nat.reduceAdd, Nat.reduceSub, Nat.reduceLeDiff, Int.reduceLT, Int.reduceLE, Int.reduceNeg, Int.reduceEq, true_and, and_true, true_or, or_true, not_true_eq_false, not_false_eq_true, false_implies, true_implies, implies_true, reduceIte, and_self, Int.reduceAdd, Int.reduceMul, Int.reduceSub, eq_self, Int.add_zero, Int.zero_add, String.reduceEq, Nat.zero_le, Option.some.injEq, Sum.inl.injEq, Sum.inr.injEq, reduceCtorEq, Int.reduceToNat, Option.toList_some, Option.toList_none, ac_cs, ac_c10, ac_c11, ac_c12, ac_c13, ac_c14, ac_c15, ac_c16, ac_c17, sc_E, sh_E, sc_I, sh_I, sc_II, sh_II, sc_III, sh_III, sc_R, sh_R, sc_RI, sh_RI, sc_RII, sh_RII, sc_RIII, sh_RIII, sc_RIIII, sh_RIIII, sc_RR, sh_RR, sc_RRI, sh_RRI, sc_RRR, sh_RRR, sc_RIR, sh_RIR, sc_RIRI, sh_RIRI, sc_RRII, sh_RRII, sc_RRIII, sh_RRIII, sc_RIIRR, sh_RIIRR, sc_RIIIRR, sh_RIIIRR, sc_RIIR, sh_RIIR, sc_RRIIR, sh_RRIIR, sc_RRIIIR, sh_RRIIIR, sc_RRIIIIR, sh_RRIIIIR, sc_RRIR, sh_RRIR]
    have hhs : ∀ s, TS T s → SI s → hadT T1 = tdD s := fun s hT hS => TS_hd hT hS td.1 sc (t1.2 td)
    refine ⟨fun q => ?_, fun q => ?_⟩
    · have d20 : T 15 0 < 20 := by
        by_cases z : T 15 0 = 20
        · exact absurd (Or.inr ⟨td, z, q⟩) nf
        · omega
      have hz := mt_f 15 hy rfl (v := T 15 0 + 1)
      have hz' : MT g (up h2 1015 m 0 (T 15 0 + 1)) m (tu (tu T1 0 0 0) 15 0 (T 15 0 + 1)) := hz
      simp (disch := omega) only [wr_of]
      obtain ⟨U, hU⟩ : ∃ U, tu (tu T1 0 0 0) 15 0 (T 15 0 + 1) = U := ⟨_, rfl⟩
      rw [hU] at hz'
      have U7 : U 7 = T 7 := by rw [← hU, tu_k (by decide), tu_k (by decide), e7]
      have U8 : U 8 = T 8 := by rw [← hU, tu_k (by decide), tu_k (by decide), e8]
      have U12 : U 12 = T1 12 := by rw [← hU, tu_k (by decide), tu_k (by decide)]
      have U15 : U 15 0 = T 15 0 + 1 := by rw [← hU, tu_s]
      have Uo : ∀ k, scr k = false → k ≠ 15 → U k = T k := fun k hk h15 => by
        rw [← hU, tu_k h15, scr_0 k hk, sc k hk]
      have U12s : ∀ s, TS T s → SI s → ∀ j, 0 ≤ j → j < 6 → U 12 j = tdR s j := fun s hT hS j j0 j1 => by
        rw [U12, t1.2 td j j0 j1, (TS_td hT hS).2 td.1]
      have x8 : ∀ s, TS T s → SI s → U 8 (U 7 0 - 1) = s 7 0 0 := fun s hT hS => by
        have := hT.2.1
        rw [U8, U7, this.1]
        exact (this.2 (by have w := td.1; have w2 := this.1; omega)).1
      have rr : rR (U 12) := by
        have w := tdR_r s0
        have u := U12s s0 hT0 hS0
        unfold rR
        rw [u 0 (by omega) (by omega), u 1 (by omega) (by omega), u 2 (by omega) (by omega), u 3 (by omega) (by omega)]
        exact ⟨w.1, w.2.1, w.2.2.1, w.2.2.2.1⟩
      have s7 := hS0.2.2.2.2.2.1
      have g1 := hT0.2.2.2.1.1
      have zr : ∀ j, 48 * T 15 0 ≤ j → j < 48 * T 15 0 + 48 → U 18 j = 0 ∧ U 19 j = 0 := fun j j0 j1 => by
        rw [Uo 18 (by decide) (by decide), Uo 19 (by decide) (by decide)]
        exact hT0.2.2.2.1.2.2.2.2.1 j (by omega)
      have zr2 : ∀ j, 3 * T 15 0 ≤ j → j < 3 * T 15 0 + 3 → U 20 j = 0 := fun j j0 j1 => by
        rw [Uo 20 (by decide) (by decide)]
        exact hT0.2.2.2.1.2.2.2.2.2 j (by omega)
      have pre : (0 ≤ T 15 0 ∧ T 15 0 < 20) ∧ (0 < U 7 0 ∧ U 7 0 ≤ 30) ∧ (0 ≤ U 8 (U 7 0 - 1) ∧ U 8 (U 7 0 - 1) ≤ 65535) ∧ rR (U 12) ∧ (∀ j, 48 * T 15 0 ≤ j → j < 48 * T 15 0 + 48 → U 18 j = 0 ∧ U 19 j = 0) ∧ ∀ j, 3 * T 15 0 ≤ j → j < 3 * T 15 0 + 3 → U 20 j = 0 :=
        ⟨by omega, by rw [U7]; exact ⟨td.1, by omega⟩, by rw [x8 s0 hT0 hS0]; exact s7, rr, zr, zr2⟩
      simp only [mt_k hz', mt_K hz', mt_T hz', ac_ent, ldI, ldR, stI, stR, inc, cI, cJ, cN, bop, oAdd, oSub, oMul, oAnd, oOr, oXor, oShl, oShr, oUshr, oRem, oDiv, oMx, oMn, oI2l, oLcmp, oDup, oDup2, oDupX1, oPop, bIc, bI0, bNul, getI, getR, putI, putZ, putR, aLen, aldI, aldZ, aldJ, aldR, astI, astZ, astJ, astR, nwO, nwA, gsT, oObj, oCpy, oCln, oCst, rtI, rtZ, rtR, rtV, thr, call, callH, ac_hsel, ac_as, ac_rs, ac_cs, ac_rcv, List.map_cons, List.map_nil, List.length_cons, List.length_nil, List.replicate, List.append_nil, List.cons_append, List.nil_append, List.getElem?_cons_zero, List.getElem?_cons_succ, List.set, Nat.zero_add, Nat.add_zero, Nat.le_refl, Nat.reduceAdd, Nat.reduceSub, Nat.reduceLeDiff, Int.reduceLT, Int.reduceLE, Int.reduceNeg, Int.reduceEq, true_and, and_true, true_or, or_true, not_true_eq_false, not_false_eq_true, false_implies, true_implies, implies_true, reduceIte, and_self, Int.reduceAdd, Int.reduceMul, Int.reduceSub, eq_self, Int.add_zero, Int.zero_add, String.reduceEq, Nat.zero_le, Option.some.injEq, Sum.inl.injEq, Sum.inr.injEq, reduceCtorEq, Int.reduceToNat, Option.toList_some, Option.toList_none, ac_cs, ac_c10, ac_c11, ac_c12, ac_c13, ac_c14, ac_c15, ac_c16, ac_c17, sc_E, sh_E, sc_I, sh_I, sc_II, sh_II, sc_III, sh_III, sc_R, sh_R, sc_RI, sh_RI, sc_RII, sh_RII, sc_RIII, sh_RIII, sc_RIIII, sh_RIIII, sc_RR, sh_RR, sc_RRI, sh_RRI, sc_RRR, sh_RRR, sc_RIR, sh_RIR, sc_RIRI, sh_RIRI, sc_RRII, sh_RRII, sc_RRIII, sh_RRIII, sc_RIIRR, sh_RIIRR, sc_RIIIRR, sh_RIIIRR, sc_RIIR, sh_RIIR, sc_RRIIR, sh_RRIIR, sc_RRIIIR, sh_RRIIIR, sc_RRIIIIR, sh_RRIIIIR, sc_RRIR, sh_RRIR]
      refine ⟨pre, ?_⟩
      rintro v h3 ⟨rfl, T3, hw, o3, gH, gA, gO⟩
      simp only [ac_ent, ldI, ldR, stI, stR, inc, cI, cJ, cN, bop, oAdd, oSub, oMul, oAnd, oOr, oXor, oShl, oShr, oUshr, oRem, oDiv, oMx, oMn, oI2l, oLcmp, oDup, oDup2, oDupX1, oPop, bIc, bI0, bNul, getI, getR, putI, putZ, putR, aLen, aldI, aldZ, aldJ, aldR, astI, astZ, astJ, astR, nwO, nwA, gsT, oObj, oCpy, oCln, oCst, rtI, rtZ, rtR, rtV, thr, call, callH, ac_hsel, ac_as, ac_rs, ac_cs, ac_rcv, List.map_cons, List.map_nil, List.length_cons, List.length_nil, List.replicate, List.append_nil, List.cons_append, List.nil_append, List.getElem?_cons_zero, List.getElem?_cons_succ, List.set, Nat.zero_add, Nat.add_zero, Nat.le_refl, Nat.reduceAdd, Nat.reduceSub, Nat.reduceLeDiff, Int.reduceLT, Int.reduceLE, Int.reduceNeg, Int.reduceEq, true_and, and_true, true_or, or_true, not_true_eq_false, not_false_eq_true, false_implies, true_implies, implies_true, reduceIte, and_self, Int.reduceAdd, Int.reduceMul, Int.reduceSub, eq_self, Int.add_zero, Int.zero_add, String.reduceEq, Nat.zero_le, Option.some.injEq, Sum.inl.injEq, Sum.inr.injEq, reduceCtorEq, Int.reduceToNat, Option.toList_some, Option.toList_none, ac_cs, ac_c10, ac_c11, ac_c12, ac_c13, ac_c14, ac_c15, ac_c16, ac_c17, sc_E, sh_E, sc_I, sh_I, sc_II, sh_II, sc_III, sh_III, sc_R, sh_R, sc_RI, sh_RI, sc_RII, sh_RII, sc_RIII, sh_RIII, sc_RIIII, sh_RIIII, sc_RR, sh_RR, sc_RRI, sh_RRI, sc_RRR, sh_RRR, sc_RIR, sh_RIR, sc_RIRI, sh_RIRI, sc_RRII, sh_RRII, sc_RRIII, sh_RRIII, sc_RIIRR, sh_RIIRR, sc_RIIIRR, sh_RIIIRR, sc_RIIR, sh_RIIR, sc_RRIIR, sh_RRIIR, sc_RRIIIR, sh_RRIIIR, sc_RRIIIIR, sh_RRIIIIR, sc_RRIR, sh_RRIR]
      refine ⟨97, by omega, rfl, T3, _, _, _, mt_tr hx (mt_tr hz' hw), ⟨?_, ?_, ?_, r60, fun s hT hS => ?_⟩, rfl, rfl, rfl, rfl⟩
      · rw [o3 0 (by omega), ← hU, tu_k (by decide), tu_s]
      · rw [o3 25 (by omega), Uo 25 (by decide) (by decide)]
      · rw [o3 11 (by omega), Uo 11 (by decide) (by decide)]
      · have hs := hhs s hT hS
        obtain ⟨f1, f2⟩ := FDR_y (s := s) ⟨(TS_td hT hS).1.mp td, by rw [← hs]; exact q, by rw [← hT.2.2.2.1.1]; exact d20⟩
        rw [f1, f2]
        refine ⟨?_, hT.2.2.2.1.1, (hand_cd hT hS t1).trans e0⟩
        rw [x8 s hT hS] at gA
        exact TS_dun hT hS Uo U15 rfl (U12s s hT hS) (x8 s hT hS) o3 gH gA gO
    · refine ⟨97, by omega, rfl, _, _, _, _, mt_tr hx hy, ⟨tu_s, ?_, ?_, r60, fun s hT hS => ?_⟩, rfl, rfl, rfl, rfl⟩
      · rw [tu_k (by decide), sc 25 (by decide)]
      · rw [tu_k (by decide), sc 11 (by decide)]
      · have hs := hhs s hT hS
        obtain ⟨f1, f2⟩ := FDR_n (s := s) (fun w => q (by rw [hs]; exact w.2.1))
        rw [f1, f2, if_pos ((TS_td hT hS).1.mp td), hs]
        exact ⟨TS_0 (TS_sc sc hT), rfl, (hand_cd hT hS t1).trans e0⟩
  | 3, hJ =>
    obtain ⟨hm, T3, x, y, dn, hx, ⟨z0, z25, z11, r60, hs⟩, rfl, rfl, rfl, rfl⟩ := hJ
    have bR : 0 ≤ T 25 0 ∧ T 25 0 < 60 := ⟨hI5.1, r60⟩
    simp only [spX9_handIn, vcX9_handIn, mX9_handIn, spX9_hasToday, spX9_had, spX9_isPlayer, spX9_in, spX9_holds, spX9_grows, ac_ent, ldI, ldR, stI, stR, inc, cI, cJ, cN, bop, oAdd, oSub, oMul, oAnd, oOr, oXor, oShl, oShr, oUshr, oRem, oDiv, oMx, oMn, oI2l, oLcmp, oDup, oDup2, oDupX1, oPop, bIc, bI0, bNul, getI, getR, putI, putZ, putR, aLen, aldI, aldZ, aldJ, aldR, astI, astZ, astJ, astR, nwO, nwA, gsT, oObj, oCpy, oCln, oCst, rtI, rtZ, rtR, rtV, thr, call, callH, ac_hsel, ac_as, ac_rs, ac_cs, ac_rcv, List.map_cons, List.map_nil, List.length_cons, List.length_nil, List.replicate, List.append_nil, List.cons_append, List.nil_append, List.getElem?_cons_zero, List.getElem?_cons_succ, List.set, Nat.zero_add, Nat.add_zero, Nat.le_refl, Nat.reduceAdd, Nat.reduceSub, Nat.reduceLeDiff, Int.reduceLT, Int.reduceLE, Int.reduceNeg, Int.reduceEq, true_and, and_true, true_or, or_true, not_true_eq_false, not_false_eq_true, false_implies, true_implies, implies_true, reduceIte, and_self, Int.reduceAdd, Int.reduceMul, Int.reduceSub, eq_self, Int.add_zero, Int.zero_add, String.reduceEq, Nat.zero_le, Option.some.injEq, Sum.inl.injEq, Sum.inr.injEq, reduceCtorEq, Int.reduceToNat, Option.toList_some, Option.toList_none, ac_cs, ac_c10, ac_c11, ac_c12, ac_c13, ac_c14, ac_c15, ac_c16, ac_c17, sc_E, sh_E, sc_I, sh_I, sc_II, sh_II, sc_III, sh_III, sc_R, sh_R, sc_RI, sh_RI, sc_RII, sh_RII, sc_RIII, sh_RIII, sc_RIIII, sh_RIIII, sc_RR, sh_RR, sc_RRI, sh_RRI, sc_RRR, sh_RRR, sc_RIR, sh_RIR, sc_RIRI, sh_RIRI, sc_RRII, sh_RRII, sc_RRIII, sh_RRIII, sc_RIIRR, sh_RIIRR, sc_RIIIRR, sh_RIIIRR, sc_RIIR, sh_RIIR, sc_RRIIR, sh_RRIIR, sc_RRIIIR, sh_RRIIIR, sc_RRIIIIR, sh_RRIIIIR, sc_RRIR, sh_RRIR, mt_k hx, mr_11 hx, mr_25 hx, mr_26 hx, mk_26 hx, ml_26 hx, mr_28 hx, mk_28 hx, ml_28 hx, mr_29 hx, mk_29 hx, ml_29 hx, mr_30 hx, mk_30 hx, ml_30 hx, mr_31 hx, mk_31 hx, ml_31 hx, z25, z11, bR, up_k, ast_k, up_kf, ast_kf, ne_eq, Nat.reduceEqDiff, not_false_eq_true]
    have hy := mt_a 28 (mt_a 31 (mt_a 30 (mt_a 29 (mt_a 26 hx (by decide) rfl (j := T 25 0) (v := p)) (by decide) (up_k (by decide)).symm (a := g 1029 m 0) (j := T 25 0) (v := c)) (by decide) ((up_k (by decide)).trans (up_k (by decide))).symm (a := g 1030 m 0) (j := T 25 0) (v := dn)) (by decide) ((up_k (by decide)).trans ((up_k (by decide)).trans (up_k (by decide)))).symm (a := g 1031 m 0) (j := T 25 0) (v := -3)) (by decide) ((up_k (by decide)).trans ((up_k (by decide)).trans ((up_k (by decide)).trans (up_k (by decide))))).symm (a := g 1028 m 0) (j := T 25 0) (v := T 11 0)
    refine ⟨60, by omega, 0, T3, _, x, y, dn, by omega, by omega, hy, ⟨z0, z25, z11, r60, hs⟩, fun k hk => by rw [tu_k (by omega), tu_k (by omega), tu_k (by omega), tu_k (by omega), tu_k (by omega)], ?_, ?_, ?_, ?_, ?_, fun j a b => by omega, fun j hj => by simp only [tu_k, tu_s, ne_eq, Nat.reduceEqDiff, not_false_eq_true], rfl, rfl, rfl, rfl⟩
    · simp only [tu_k, tu_s, ne_eq, Nat.reduceEqDiff, not_false_eq_true]; rw [tu_fu]
    · simp only [tu_k, tu_s, ne_eq, Nat.reduceEqDiff, not_false_eq_true]; rw [tu_fu]; simp only [tu_k, tu_s, ne_eq, Nat.reduceEqDiff, not_false_eq_true]
    · simp only [tu_k, tu_s, ne_eq, Nat.reduceEqDiff, not_false_eq_true]; rw [tu_fu]; simp only [tu_k, tu_s, ne_eq, Nat.reduceEqDiff, not_false_eq_true]
    · simp only [tu_k, tu_s, ne_eq, Nat.reduceEqDiff, not_false_eq_true]; rw [tu_fu]; simp only [tu_k, tu_s, ne_eq, Nat.reduceEqDiff, not_false_eq_true]
    · rw [tu_fu]; simp only [tu_k, tu_s, ne_eq, Nat.reduceEqDiff, not_false_eq_true]
  | 4, hJ =>
    obtain ⟨i, T3, T', x, y, dn, i1, hm, hx, ⟨z0, z25, z11, r60, hs⟩, ho, h26, h29, h30, h31, h28, h27, h27', rfl, rfl, rfl, rfl⟩ := hJ
    have e11 : T' 11 0 = T 11 0 := by rw [ho 11 (by omega), z11]
    have e25 : T' 25 0 = T 25 0 := by rw [ho 25 (by omega), z25]
    have e10 : T' 10 = T3 10 := ho 10 (by omega)
    simp only [spX9_handIn, vcX9_handIn, mX9_handIn, spX9_hasToday, spX9_had, spX9_isPlayer, spX9_in, spX9_holds, spX9_grows, ac_ent, ldI, ldR, stI, stR, inc, cI, cJ, cN, bop, oAdd, oSub, oMul, oAnd, oOr, oXor, oShl, oShr, oUshr, oRem, oDiv, oMx, oMn, oI2l, oLcmp, oDup, oDup2, oDupX1, oPop, bIc, bI0, bNul, getI, getR, putI, putZ, putR, aLen, aldI, aldZ, aldJ, aldR, astI, astZ, astJ, astR, nwO, nwA, gsT, oObj, oCpy, oCln, oCst, rtI, rtZ, rtR, rtV, thr, call, callH, ac_hsel, ac_as, ac_rs, ac_cs, ac_rcv, List.map_cons, List.map_nil, List.length_cons, List.length_nil, List.replicate, List.append_nil, List.cons_append, List.nil_append, List.getElem?_cons_zero, List.getElem?_cons_succ, List.set, Nat.zero_add, Nat.add_zero, Nat.le_refl, Nat.reduceAdd, Nat.reduceSub, Nat.reduceLeDiff, Int.reduceLT, Int.reduceLE, Int.reduceNeg, Int.reduceEq, true_and, and_true, true_or, or_true, not_true_eq_false, not_false_eq_true, false_implies, true_implies, implies_true, reduceIte, and_self, Int.reduceAdd, Int.reduceMul, Int.reduceSub, eq_self, Int.add_zero, Int.zero_add, String.reduceEq, Nat.zero_le, Option.some.injEq, Sum.inl.injEq, Sum.inr.injEq, reduceCtorEq, Int.reduceToNat, Option.toList_some, Option.toList_none, ac_cs, ac_c10, ac_c11, ac_c12, ac_c13, ac_c14, ac_c15, ac_c16, ac_c17, sc_E, sh_E, sc_I, sh_I, sc_II, sh_II, sc_III, sh_III, sc_R, sh_R, sc_RI, sh_RI, sc_RII, sh_RII, sc_RIII, sh_RIII, sc_RIIII, sh_RIIII, sc_RR, sh_RR, sc_RRI, sh_RRI, sc_RRR, sh_RRR, sc_RIR, sh_RIR, sc_RIRI, sh_RIRI, sc_RRII, sh_RRII, sc_RRIII, sh_RRIII, sc_RIIRR, sh_RIIRR, sc_RIIIRR, sh_RIIIRR, sc_RIIR, sh_RIIR, sc_RRIIR, sh_RRIIR, sc_RRIIIR, sh_RRIIIR, sc_RRIIIIR, sh_RRIIIIR, sc_RRIR, sh_RRIR, mt_k hx, mr_10 hx, mk_10 hx, ml_10 hx, mr_11 hx, mr_25 hx, mr_27 hx, mk_27 hx, ml_27 hx, e11, e25, e10, up_k, ast_k, up_kf, ast_kf, ne_eq, Nat.reduceEqDiff, not_false_eq_true, up_sj]
    simp (disch := omega) only [wr_of]
    refine ⟨fun q => ?_, fun q => ⟨by omega, by omega, ?_⟩⟩
    · have hy := mt_f 25 (mt_f 11 hx rfl (v := 0)) rfl (v := T 25 0 + 1)
      rw [show T 25 0 + 1 - 1 = T 25 0 by omega]
      refine OK_v hy (mt_T hM) (by simp only [tu_k, tu_s, ne_eq, Nat.reduceEqDiff, not_false_eq_true]; rw [ho 0 (by omega), z0]) fun s hT hS => ?_
      obtain ⟨hs1, hs2, hs3⟩ := hs s hT hS
      refine ⟨hs3, hT.2.2.2.2.1, ?_⟩
      have F18 : FDR s 18 = s 18 ∧ FDR s 21 = s 21 := by
        unfold FDR
        split
        · exact ⟨FDun_k (by omega), FDun_k (by omega)⟩
        · exact ⟨rfl, rfl⟩
      unfold FHand
      rw [← hs2]
      refine TS_run (T := T3) (R := T 25 0) (n := T 11 0) hs1 (fun r r0 r1 => ?_) z25.symm z11.symm (fun k k1 k2 => by rw [tu_k (by omega), tu_k (by omega), ho k (by omega)]) tu_s (by simp only [tu_k, tu_s, ne_eq, Nat.reduceEqDiff, not_false_eq_true]) ?_ ?_ ?_ ?_ ?_ (fun j j0 j1 => ?_) (fun j hj => ?_)
      · rw [F18.1] at r1
        rw [F18.2]
        exact (hS.2.2.2.2.2.2.2.2.2.2.2.2 r r0 r1).1.2
      · simp only [tu_k, tu_s, ne_eq, Nat.reduceEqDiff, not_false_eq_true]; exact h26
      · simp only [tu_k, tu_s, ne_eq, Nat.reduceEqDiff, not_false_eq_true]; exact h29
      · simp only [tu_k, tu_s, ne_eq, Nat.reduceEqDiff, not_false_eq_true]; exact h30
      · simp only [tu_k, tu_s, ne_eq, Nat.reduceEqDiff, not_false_eq_true]; exact h31
      · simp only [tu_k, tu_s, ne_eq, Nat.reduceEqDiff, not_false_eq_true]; exact h28
      · simp only [tu_k, tu_s, ne_eq, Nat.reduceEqDiff, not_false_eq_true]; exact h27 j j0 (by omega)
      · simp only [tu_k, tu_s, ne_eq, Nat.reduceEqDiff, not_false_eq_true]; exact h27' j hj
    · have hy := mt_a 27 hx (by decide) rfl (j := 60 * T 25 0 + i) (v := T3 10 i)
      refine ⟨mm - 1, by omega, i + 1, T3, _, x, y, dn, by omega, by omega, hy, ⟨z0, z25, z11, r60, hs⟩, fun k hk => by rw [tu_k (by omega), ho k hk], ?_, ?_, ?_, ?_, ?_, fun j j0 j1 => ?_, fun j hj => ?_, rfl, rfl, rfl, rfl⟩
      · simp only [tu_k, tu_s, ne_eq, Nat.reduceEqDiff, not_false_eq_true]; exact h26
      · simp only [tu_k, tu_s, ne_eq, Nat.reduceEqDiff, not_false_eq_true]; exact h29
      · simp only [tu_k, tu_s, ne_eq, Nat.reduceEqDiff, not_false_eq_true]; exact h30
      · simp only [tu_k, tu_s, ne_eq, Nat.reduceEqDiff, not_false_eq_true]; exact h31
      · simp only [tu_k, tu_s, ne_eq, Nat.reduceEqDiff, not_false_eq_true]; exact h28
      · by_cases w : j = i
        · rw [w, tu_s]
        · rw [tu_n (by omega)]; exact h27 j j0 (by omega)
      · rw [tu_n (by omega)]; exact h27' j hj
  | j + 5, hJ => exact hJ.elim
