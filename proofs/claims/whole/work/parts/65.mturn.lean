/-! ===== the model: a turn ===== -/
theorem mdn_e (q : Nat → Int) : mdn q 0 = q 0 + 1 ∧ mdn q 1 = q 1 ∧ mdn q 2 = q 2 ∧ mdn q 3 = wr (q 3 + (if q 0 + 1 = 3 then 20 else 0)) ∧ mdn q 4 = (if q 0 + 1 = 3 then 2 else q 4) ∧ mdn q 5 = 0 ∧ mdn q 6 = 0 := by
  unfold mdn
  refine ⟨?_, ?_, ?_, ?_, ?_, ?_, ?_⟩ <;> simp only [upq, Nat.reduceEqDiff, reduceIte]
def tnP (T : mT) (d key : Int) : Prop := (0 ≤ d ∧ d < 20) ∧ (0 ≤ key ∧ key < 6) ∧ (0 ≤ T 33 0 ∧ T 33 0 < 16) ∧ (0 ≤ T 32 0 ∧ T 32 0 ≤ 3) ∧ (T 36 0 = 0 → T 32 0 < 3) ∧ ∀ f, 0 ≤ f → f < 3 → DOK (sT T 14 (3 * d + f))
def tnR (h h' : ac_H) (m : Int) (T : mT) (d key : Int) (v : Option ac_V) : Prop := ∃ T', MT h h' m T' ∧ (∀ k, k < 32 ∨ 39 ≤ k → T' k = T k) ∧ ∃ w, v = some (.inl w) ∧ ∀ q, GS T q → w = (mtk (sT T) d q key).1 ∧ GS T' (mtk (sT T) d q key).2
def spX9_turns : ac_Sp := sc_RII (fun m d key h => MK h m ∧ tnP (tv h m) d key) (fun m d key h v h' => tnR h h' m (tv h m) d key v) (fun _ _ _ _ _ _ => False)
def ivX9_turns (m d key : Int) (h : ac_H) (T : mT) : Nat → Nat → ac_S := fun j mm => match j with
  | 0 => fun L S g k z => mm = 4 ∧ ent0 [some (.inr (.inl m)), some (.inl d), some (.inl key), none, none] h L S g k z
  | 1 => fun L S g k z => mm = 3 ∧ T 36 0 = 0 ∧ (key = 4 → T 33 0 = T 21 (3 * d + T 32 0)) ∧ (key < 4 → ¬ bt (T 18 (16 * (3 * d + T 32 0) + T 33 0)) key = 0) ∧ L = [some (.inr (.inl m)), some (.inl d), some (.inl key), some (.inl (3 * d + T 32 0)), none] ∧ S = [] ∧ g = h ∧ k = 0 ∧ z = 0
  | 2 => fun L S g k z => mm = 2 ∧ key = 4 ∧ T 36 0 = 0 ∧ T 33 0 = T 21 (3 * d + T 32 0) ∧ MT h g m (tu (tu (tu T 32 0 (T 32 0 + 1)) 37 0 0) 38 0 0) ∧ L = [some (.inr (.inl m)), some (.inl d), some (.inl key), some (.inl (3 * d + T 32 0)), none] ∧ S = [.inl (if T 32 0 + 1 = 3 then 2 else T 36 0), .inr (.inl m)] ∧ k = 0 ∧ z = 0
  | 3 => fun L S g k z => mm = 1 ∧ key = 4 ∧ T 36 0 = 0 ∧ T 33 0 = T 21 (3 * d + T 32 0) ∧ MT h g m (tu (tu (tu (tu T 32 0 (T 32 0 + 1)) 37 0 0) 38 0 0) 36 0 (if T 32 0 + 1 = 3 then 2 else T 36 0)) ∧ L = [some (.inr (.inl m)), some (.inl d), some (.inl key), some (.inl (3 * d + T 32 0)), none] ∧ S = [.inl (if T 32 0 + 1 = 3 then 20 else 0), .inl (T 35 0), .inr (.inl m)] ∧ k = 0 ∧ z = 0
  | 4 => fun L S g k z => mm = 0 ∧ (∃ T', MT h g m T' ∧ (∀ k, k < 32 ∨ 39 ≤ k → T' k = T k) ∧ ∀ q, GS T q → (mtk (sT T) d q key).1 = 1 ∧ GS T' (mtk (sT T) d q key).2) ∧ (∃ o, L = [some (.inr (.inl m)), some (.inl d), some (.inl key), some (.inl (3 * d + T 32 0)), o]) ∧ S = [] ∧ k = 0 ∧ z = 0
  | _ => fun _ _ _ _ _ => False
set_option maxRecDepth 100000 in
set_option maxHeartbeats 4000000 in
theorem mtX9_turns {G : ac_G} {l : Launch} : ac_Met G l yX9_turns mX9_turns 2 45 0 0 spX9_turns := by
  refine ac_meth (pcs := pcX9_turns) (B := fun P X J j => vcX9_turns spX9_beside spX9_comes P X J j) (by decide) rfl rfl rfl (fun P X J hJ j => sdX9_turns mtX9_beside mtX9_comes P X J hJ j) (hp_RII (by decide)) fun As h hp => ?_
  obtain ⟨m, d, key, rfl, hp⟩ := sh_RII_inv hp
  obtain ⟨hK, hP⟩ := hp
  have hM := mt_0 hK
  obtain ⟨T, hT⟩ : ∃ T, tv h m = T := ⟨_, rfl⟩
  rw [hT] at hM hP
  obtain ⟨hd, hk, hr, hf, hf2, hD⟩ := hP
  refine ⟨ivX9_turns m d key h T, 4, ⟨rfl, rfl, rfl, rfl, rfl, rfl⟩, fun j mm L S g k z hJ => ?_⟩
  match j, hJ with
  | 0, hJ =>
    obtain ⟨hm, rfl, rfl, rfl, rfl, rfl⟩ := hJ
    simp only [spX9_turns, vcX9_turns, mX9_turns, spX9_beside, spX9_comes, ac_ent, ldI, ldR, stI, stR, inc, cI, cJ, cN, bop, oAdd, oSub, oMul, oAnd, oOr, oXor, oShl, oShr, oUshr, oRem, oDiv, oMx, oMn, oI2l, oLcmp, oDup, oDup2, oDupX1, oPop, bIc, bI0, bNul, getI, getR, putI, putZ, putR, aLen, aldI, aldZ, aldJ, aldR, astI, astZ, astJ, astR, nwO, nwA, gsT, oObj, oCpy, oCln, oCst, rtI, rtZ, rtR, rtV, thr, call, callH, ac_hsel, ac_as, ac_rs, ac_cs, ac_rcv, List.map_cons, List.map_nil, List.length_cons, List.length_nil, List.replicate, List.append_nil, List.cons_append, List.nil_append, List.getElem?_cons_zero, List.getElem?_cons_succ, List.set, Nat.zero_add, Nat.add_zero, Nat.le_refl, Nat.reduceAdd, Nat.reduceSub, Nat.reduceLeDiff, Int.reduceLT, Int.reduceLE, Int.reduceNeg, Int.reduceEq, true_and, and_true, true_or, or_true, not_true_eq_false, not_false_eq_true, false_implies, true_implies, implies_true, reduceIte, and_self, Int.reduceAdd, Int.reduceMul, Int.reduceSub, eq_self, Int.add_zero, Int.zero_add, String.reduceEq, Nat.zero_le, Option.some.injEq, Sum.inl.injEq, Sum.inr.injEq, reduceCtorEq, Int.reduceToNat, Option.toList_some, Option.toList_none, ac_cs, ac_c10, ac_c11, ac_c12, ac_c13, ac_c14, ac_c15, ac_c16, ac_c17, sc_E, sh_E, sc_I, sh_I, sc_II, sh_II, sc_III, sh_III, sc_R, sh_R, sc_RI, sh_RI, sc_RII, sh_RII, sc_RIII, sh_RIII, sc_RIIII, sh_RIIII, sc_RR, sh_RR, sc_RRI, sh_RRI, sc_RRR, sh_RRR, sc_RIR, sh_RIR, sc_RIRI, sh_RIRI, sc_RRII, sh_RRII, sc_RRIII, sh_RRIII, sc_RIIRR, sh_RIIRR, sc_RIIIRR, sh_RIIIRR, sc_RIIR, sh_RIIR, sc_RRIIR, sh_RRIIR, sc_RRIIIR, sh_RRIIIR, sc_RRIIIIR, sh_RRIIIIR, sc_RRIR, sh_RRIR, mt_k hM, mr_18 hM, mk_18 hM, ml_18 hM, mr_21 hM, mk_21 hM, ml_21 hM, mr_32 hM, mr_33 hM, mr_36 hM, hT]
    simp (disch := omega) only [wr_of]
    have no : (∀ q, GS T q → q 4 ≠ 0 ∨ (key = 4 ∧ q 1 ≠ sT T 17 (3 * d + q 0) 0) ∨ (key < 4 ∧ bt (sT T 14 (3 * d + q 0) (q 1)) key = 0)) → tnR g g m T d key (some (.inl 0)) := fun c => ⟨T, hM, fun _ _ => rfl, 0, rfl, fun q hq => by rw [mtk_no (c q hq)]; exact ⟨rfl, hq⟩⟩
    refine ⟨fun e => ⟨fun e2 => ⟨by have := hf2 e; omega, fun e3 => ⟨fun e4 => ?_, fun e4 => ?_⟩, fun e3 => ?_⟩, fun e2 => ⟨fun e4 => ?_, fun e4 => ⟨by have := hf2 e; omega, fun e5 => ?_, fun e5 => ?_⟩⟩⟩, fun e => ?_⟩
    · exact ⟨3, by omega, rfl, e, fun _ => e3, fun c => by omega, rfl, rfl, rfl, rfl, rfl⟩
    · omega
    · exact no fun q hq => by
        obtain ⟨q0, q1, q2, q3, q4, q5, q6⟩ := GS_7 hq
        exact Or.inr (Or.inl ⟨e2, by rw [← q1, ← q0]; exact e3⟩)
    · exact ⟨3, by omega, rfl, e, fun c => by omega, fun c => by omega, rfl, rfl, rfl, rfl, rfl⟩
    · exact no fun q hq => by
        obtain ⟨q0, q1, q2, q3, q4, q5, q6⟩ := GS_7 hq
        exact Or.inr (Or.inr ⟨by omega, by rw [← q1, ← q0]; exact e5⟩)
    · exact ⟨3, by omega, rfl, e, fun c => absurd c e2, fun _ => e5, rfl, rfl, rfl, rfl, rfl⟩
    · exact no fun q hq => by
        obtain ⟨q0, q1, q2, q3, q4, q5, q6⟩ := GS_7 hq
        exact Or.inl (by rw [← q4]; exact e)
  | 1, hJ =>
    obtain ⟨hm, e0, e4, e3, rfl, rfl, rfl, rfl, rfl⟩ := hJ
    have f3 := hf2 e0
    simp only [spX9_turns, vcX9_turns, mX9_turns, spX9_beside, spX9_comes, ac_ent, ldI, ldR, stI, stR, inc, cI, cJ, cN, bop, oAdd, oSub, oMul, oAnd, oOr, oXor, oShl, oShr, oUshr, oRem, oDiv, oMx, oMn, oI2l, oLcmp, oDup, oDup2, oDupX1, oPop, bIc, bI0, bNul, getI, getR, putI, putZ, putR, aLen, aldI, aldZ, aldJ, aldR, astI, astZ, astJ, astR, nwO, nwA, gsT, oObj, oCpy, oCln, oCst, rtI, rtZ, rtR, rtV, thr, call, callH, ac_hsel, ac_as, ac_rs, ac_cs, ac_rcv, List.map_cons, List.map_nil, List.length_cons, List.length_nil, List.replicate, List.append_nil, List.cons_append, List.nil_append, List.getElem?_cons_zero, List.getElem?_cons_succ, List.set, Nat.zero_add, Nat.add_zero, Nat.le_refl, Nat.reduceAdd, Nat.reduceSub, Nat.reduceLeDiff, Int.reduceLT, Int.reduceLE, Int.reduceNeg, Int.reduceEq, true_and, and_true, true_or, or_true, not_true_eq_false, not_false_eq_true, false_implies, true_implies, implies_true, reduceIte, and_self, Int.reduceAdd, Int.reduceMul, Int.reduceSub, eq_self, Int.add_zero, Int.zero_add, String.reduceEq, Nat.zero_le, Option.some.injEq, Sum.inl.injEq, Sum.inr.injEq, reduceCtorEq, Int.reduceToNat, Option.toList_some, Option.toList_none, ac_cs, ac_c10, ac_c11, ac_c12, ac_c13, ac_c14, ac_c15, ac_c16, ac_c17, sc_E, sh_E, sc_I, sh_I, sc_II, sh_II, sc_III, sh_III, sc_R, sh_R, sc_RI, sh_RI, sc_RII, sh_RII, sc_RIII, sh_RIII, sc_RIIII, sh_RIIII, sc_RR, sh_RR, sc_RRI, sh_RRI, sc_RRR, sh_RRR, sc_RIR, sh_RIR, sc_RIRI, sh_RIRI, sc_RRII, sh_RRII, sc_RRIII, sh_RRIII, sc_RIIRR, sh_RIIRR, sc_RIIIRR, sh_RIIIRR, sc_RIIR, sh_RIIR, sc_RRIIR, sh_RRIIR, sc_RRIIIR, sh_RRIIIR, sc_RRIIIIR, sh_RRIIIIR, sc_RRIR, sh_RRIR, mt_k hM, mr_17 hM, mk_17 hM, ml_17 hM, mr_32 hM, mr_33 hM, mr_34 hM, mr_35 hM, mr_36 hM, up_k, ast_k, up_kf, ast_kf, ne_eq, Nat.reduceEqDiff, not_false_eq_true, up_sj, hT]
    simp (disch := omega) only [wr_of]
    refine ⟨fun k4 => ⟨fun k5 => ?_, fun k5 => ?_⟩, fun k4 => ?_⟩
    · have hN := mt_f 38 (mt_f 37 (mt_f 32 hM rfl (v := T 32 0 + 1)) rfl (v := 0)) rfl (v := 0)
      refine ⟨fun c => ⟨2, by omega, rfl, k5, e0, e4 k5, hN, rfl, ?_, rfl, rfl⟩, fun c => ⟨2, by omega, rfl, k5, e0, e4 k5, hN, rfl, ?_, rfl, rfl⟩⟩
      · rw [if_pos c]
      · rw [if_neg c]
    · have k6 : key = 5 := by omega
      have bd : 0 ≤ 6 * d + 4 ∧ 6 * d + 4 < 120 := by omega
      have bd2 : 0 ≤ 6 * d + 5 ∧ 6 * d + 5 < 120 := by omega
      have hN := fun x y => mt_f 35 (mt_f 34 hM rfl (v := x)) rfl (v := y)
      have hN2 := fun x x' y => mt_f 35 (mt_f 34 (mt_f 34 hM rfl (v := x)) rfl (v := x')) rfl (v := y)
      have mq : ∀ q, GS T q → (mtk (sT T) d q key) = (1, mrs (sT T) d q) := fun q hq => by
        rw [k6]; exact mtk_rs (by rw [← (GS_7 hq).2.2.2.2.1]; exact e0)
      refine ⟨bd, bd2, fun c => ?_, fun c => ?_⟩
      · refine ⟨0, by omega, rfl, ⟨_, hN2 _ _ _, fun k hk => by rw [tu_k (by omega), tu_k (by omega), tu_k (by omega)], fun q hq => ?_⟩, ⟨_, rfl⟩, rfl, rfl, rfl⟩
        rw [mq q hq]
        obtain ⟨q0, q1, q2, q3, q4, q5, q6⟩ := GS_7 hq
        refine ⟨rfl, GS_of ?_⟩
        unfold mrs
        have ec : ¬ sT T 13 d 4 < wr (q 2 + sT T 13 d 5) := by rw [← q2]; show ¬ T 17 (6 * d + 4) < wr (T 34 0 + T 17 (6 * d + 5)); omega
        rw [if_neg ec, ← q2, ← q3]
        refine ⟨?_, ?_, ?_, ?_, ?_, ?_, ?_⟩ <;> simp only [tu_k, tu_s, ne_eq, Nat.reduceEqDiff, not_false_eq_true, upq, Nat.reduceEqDiff, reduceIte] <;> first | assumption | rfl
      · refine ⟨0, by omega, rfl, ⟨_, hN2 _ _ _, fun k hk => by rw [tu_k (by omega), tu_k (by omega), tu_k (by omega)], fun q hq => ?_⟩, ⟨_, rfl⟩, rfl, rfl, rfl⟩
        rw [mq q hq]
        obtain ⟨q0, q1, q2, q3, q4, q5, q6⟩ := GS_7 hq
        refine ⟨rfl, GS_of ?_⟩
        unfold mrs
        have ec : sT T 13 d 4 < wr (q 2 + sT T 13 d 5) := by rw [← q2]; show T 17 (6 * d + 4) < wr (T 34 0 + T 17 (6 * d + 5)); omega
        rw [if_pos ec, ← q3]
        refine ⟨?_, ?_, ?_, ?_, ?_, ?_, ?_⟩ <;> simp only [tu_k, tu_s, ne_eq, Nat.reduceEqDiff, not_false_eq_true, upq, Nat.reduceEqDiff, reduceIte] <;> first | assumption | rfl
    · have k4' : 0 ≤ key ∧ key < 4 := by omega
      have hb := e3 k4'.2
      have nn := hD (T 32 0) hf.1 f3 (T 33 0) key hr.1 hr.2 k4'.1 k4'.2 hb
      have nr := (nb_r (d := key) hr.1 hr.2).resolve_left nn
      refine ⟨⟨hr.1, hr.2, k4'.1, k4'.2⟩, ?_⟩
      rintro v h1 ⟨rfl, rfl⟩
      have hN : MT h1 (up h1 1033 m 0 (nb (T 33 0) key)) m (tu T 33 0 (nb (T 33 0) key)) := mt_f 33 hM rfl
      have ab : 0 ≤ 3 * d + T 32 0 ∧ 3 * d + T 32 0 < 60 := by omega
      have z33 : tu T 33 0 (nb (T 33 0) key) 33 0 = nb (T 33 0) key := tu_s
      simp only [mt_k hM, mt_k hN, mt_K hN, mt_T hN, ab, z33, nr, ac_ent, ldI, ldR, stI, stR, inc, cI, cJ, cN, bop, oAdd, oSub, oMul, oAnd, oOr, oXor, oShl, oShr, oUshr, oRem, oDiv, oMx, oMn, oI2l, oLcmp, oDup, oDup2, oDupX1, oPop, bIc, bI0, bNul, getI, getR, putI, putZ, putR, aLen, aldI, aldZ, aldJ, aldR, astI, astZ, astJ, astR, nwO, nwA, gsT, oObj, oCpy, oCln, oCst, rtI, rtZ, rtR, rtV, thr, call, callH, ac_hsel, ac_as, ac_rs, ac_cs, ac_rcv, List.map_cons, List.map_nil, List.length_cons, List.length_nil, List.replicate, List.append_nil, List.cons_append, List.nil_append, List.getElem?_cons_zero, List.getElem?_cons_succ, List.set, Nat.zero_add, Nat.add_zero, Nat.le_refl, Nat.reduceAdd, Nat.reduceSub, Nat.reduceLeDiff, Int.reduceLT, Int.reduceLE, Int.reduceNeg, Int.reduceEq, true_and, and_true, true_or, or_true, not_true_eq_false, not_false_eq_true, false_implies, true_implies, implies_true, reduceIte, and_self, Int.reduceAdd, Int.reduceMul, Int.reduceSub, eq_self, Int.add_zero, Int.zero_add, String.reduceEq, Nat.zero_le, Option.some.injEq, Sum.inl.injEq, Sum.inr.injEq, reduceCtorEq, Int.reduceToNat, Option.toList_some, Option.toList_none, ac_cs, ac_c10, ac_c11, ac_c12, ac_c13, ac_c14, ac_c15, ac_c16, ac_c17, sc_E, sh_E, sc_I, sh_I, sc_II, sh_II, sc_III, sh_III, sc_R, sh_R, sc_RI, sh_RI, sc_RII, sh_RII, sc_RIII, sh_RIII, sc_RIIII, sh_RIIII, sc_RR, sh_RR, sc_RRI, sh_RRI, sc_RRR, sh_RRR, sc_RIR, sh_RIR, sc_RIRI, sh_RIRI, sc_RRII, sh_RRII, sc_RRIII, sh_RRIII, sc_RIIRR, sh_RIIRR, sc_RIIIRR, sh_RIIIRR, sc_RIIR, sh_RIIR, sc_RRIIR, sh_RRIIR, sc_RRIIIR, sh_RRIIIR, sc_RRIIIIR, sh_RRIIIIR, sc_RRIR, sh_RRIR]
      rintro v h2 ⟨rfl, T', hN2, ho, hq2⟩
      simp only [ac_ent, ldI, ldR, stI, stR, inc, cI, cJ, cN, bop, oAdd, oSub, oMul, oAnd, oOr, oXor, oShl, oShr, oUshr, oRem, oDiv, oMx, oMn, oI2l, oLcmp, oDup, oDup2, oDupX1, oPop, bIc, bI0, bNul, getI, getR, putI, putZ, putR, aLen, aldI, aldZ, aldJ, aldR, astI, astZ, astJ, astR, nwO, nwA, gsT, oObj, oCpy, oCln, oCst, rtI, rtZ, rtR, rtV, thr, call, callH, ac_hsel, ac_as, ac_rs, ac_cs, ac_rcv, List.map_cons, List.map_nil, List.length_cons, List.length_nil, List.replicate, List.append_nil, List.cons_append, List.nil_append, List.getElem?_cons_zero, List.getElem?_cons_succ, List.set, Nat.zero_add, Nat.add_zero, Nat.le_refl, Nat.reduceAdd, Nat.reduceSub, Nat.reduceLeDiff, Int.reduceLT, Int.reduceLE, Int.reduceNeg, Int.reduceEq, true_and, and_true, true_or, or_true, not_true_eq_false, not_false_eq_true, false_implies, true_implies, implies_true, reduceIte, and_self, Int.reduceAdd, Int.reduceMul, Int.reduceSub, eq_self, Int.add_zero, Int.zero_add, String.reduceEq, Nat.zero_le, Option.some.injEq, Sum.inl.injEq, Sum.inr.injEq, reduceCtorEq, Int.reduceToNat, Option.toList_some, Option.toList_none, ac_cs, ac_c10, ac_c11, ac_c12, ac_c13, ac_c14, ac_c15, ac_c16, ac_c17, sc_E, sh_E, sc_I, sh_I, sc_II, sh_II, sc_III, sh_III, sc_R, sh_R, sc_RI, sh_RI, sc_RII, sh_RII, sc_RIII, sh_RIII, sc_RIIII, sh_RIIII, sc_RR, sh_RR, sc_RRI, sh_RRI, sc_RRR, sh_RRR, sc_RIR, sh_RIR, sc_RIRI, sh_RIRI, sc_RRII, sh_RRII, sc_RRIII, sh_RRIII, sc_RIIRR, sh_RIIRR, sc_RIIIRR, sh_RIIIRR, sc_RIIR, sh_RIIR, sc_RRIIR, sh_RRIIR, sc_RRIIIR, sh_RRIIIR, sc_RRIIIIR, sh_RRIIIIR, sc_RRIR, sh_RRIR]
      refine ⟨0, by omega, rfl, ⟨T', mt_tr hN hN2, fun k hk => by rw [ho k hk, tu_k (by omega)], fun q hq => ?_⟩, ⟨_, rfl⟩, rfl, rfl, rfl⟩
      obtain ⟨q0, q1, q2, q3, q4, q5, q6⟩ := GS_7 hq
      have mq : mtk (sT T) d q key = (1, mcm (sT T) (3 * d + q 0) (upq q 1 (nb (q 1) key))) := mtk_go (by rw [← q4]; exact e0) k4'.2 (by rw [← q0, ← q1]; exact hb)
      rw [mq]
      refine ⟨rfl, ?_⟩
      have gs : GS (tu T 33 0 (nb (T 33 0) key)) (upq q 1 (nb (q 1) key)) := by
        refine GS_of ?_
        rw [← q1]
        refine ⟨?_, ?_, ?_, ?_, ?_, ?_, ?_⟩ <;> simp only [tu_k, tu_s, ne_eq, Nat.reduceEqDiff, not_false_eq_true, upq, Nat.reduceEqDiff, reduceIte] <;> assumption
      have := hq2 _ gs
      have es : sT (tu T 33 0 (nb (T 33 0) key)) = sT T := by
        funext k i j
        unfold sT
        split <;> simp only [tu_k, tu_s, ne_eq, Nat.reduceEqDiff, not_false_eq_true]
      rw [es, q0] at this
      exact this
  | 2, hJ =>
    obtain ⟨hm, k4, e0, er, hN, rfl, rfl, rfl, rfl⟩ := hJ
    have f3 := hf2 e0
    have hN2 := mt_f 36 hN rfl (v := if T 32 0 + 1 = 3 then 2 else T 36 0)
    simp only [spX9_turns, vcX9_turns, mX9_turns, spX9_beside, spX9_comes, ac_ent, ldI, ldR, stI, stR, inc, cI, cJ, cN, bop, oAdd, oSub, oMul, oAnd, oOr, oXor, oShl, oShr, oUshr, oRem, oDiv, oMx, oMn, oI2l, oLcmp, oDup, oDup2, oDupX1, oPop, bIc, bI0, bNul, getI, getR, putI, putZ, putR, aLen, aldI, aldZ, aldJ, aldR, astI, astZ, astJ, astR, nwO, nwA, gsT, oObj, oCpy, oCln, oCst, rtI, rtZ, rtR, rtV, thr, call, callH, ac_hsel, ac_as, ac_rs, ac_cs, ac_rcv, List.map_cons, List.map_nil, List.length_cons, List.length_nil, List.replicate, List.append_nil, List.cons_append, List.nil_append, List.getElem?_cons_zero, List.getElem?_cons_succ, List.set, Nat.zero_add, Nat.add_zero, Nat.le_refl, Nat.reduceAdd, Nat.reduceSub, Nat.reduceLeDiff, Int.reduceLT, Int.reduceLE, Int.reduceNeg, Int.reduceEq, true_and, and_true, true_or, or_true, not_true_eq_false, not_false_eq_true, false_implies, true_implies, implies_true, reduceIte, and_self, Int.reduceAdd, Int.reduceMul, Int.reduceSub, eq_self, Int.add_zero, Int.zero_add, String.reduceEq, Nat.zero_le, Option.some.injEq, Sum.inl.injEq, Sum.inr.injEq, reduceCtorEq, Int.reduceToNat, Option.toList_some, Option.toList_none, ac_cs, ac_c10, ac_c11, ac_c12, ac_c13, ac_c14, ac_c15, ac_c16, ac_c17, sc_E, sh_E, sc_I, sh_I, sc_II, sh_II, sc_III, sh_III, sc_R, sh_R, sc_RI, sh_RI, sc_RII, sh_RII, sc_RIII, sh_RIII, sc_RIIII, sh_RIIII, sc_RR, sh_RR, sc_RRI, sh_RRI, sc_RRR, sh_RRR, sc_RIR, sh_RIR, sc_RIRI, sh_RIRI, sc_RRII, sh_RRII, sc_RRIII, sh_RRIII, sc_RIIRR, sh_RIIRR, sc_RIIIRR, sh_RIIIRR, sc_RIIR, sh_RIIR, sc_RRIIR, sh_RRIIR, sc_RRIIIR, sh_RRIIIR, sc_RRIIIIR, sh_RRIIIIR, sc_RRIR, sh_RRIR, mt_k hN, mr_32 hN, mr_35 hN, mr_36 hN, up_k, ast_k, up_kf, ast_kf, ne_eq, Nat.reduceEqDiff, not_false_eq_true, tu_k, tu_s, ne_eq, Nat.reduceEqDiff, not_false_eq_true]
    refine ⟨fun c => ⟨1, by omega, rfl, k4, e0, er, hN2, rfl, by rw [if_pos c], rfl, rfl⟩, fun c => ⟨1, by omega, rfl, k4, e0, er, hN2, rfl, by rw [if_neg c], rfl, rfl⟩⟩
  | 3, hJ =>
    obtain ⟨hm, k4, e0, er, hN, rfl, rfl, rfl, rfl⟩ := hJ
    have f3 := hf2 e0
    have hN2 := mt_f 35 hN rfl (v := wr (T 35 0 + (if T 32 0 + 1 = 3 then 20 else 0)))
    simp only [spX9_turns, vcX9_turns, mX9_turns, spX9_beside, spX9_comes, ac_ent, ldI, ldR, stI, stR, inc, cI, cJ, cN, bop, oAdd, oSub, oMul, oAnd, oOr, oXor, oShl, oShr, oUshr, oRem, oDiv, oMx, oMn, oI2l, oLcmp, oDup, oDup2, oDupX1, oPop, bIc, bI0, bNul, getI, getR, putI, putZ, putR, aLen, aldI, aldZ, aldJ, aldR, astI, astZ, astJ, astR, nwO, nwA, gsT, oObj, oCpy, oCln, oCst, rtI, rtZ, rtR, rtV, thr, call, callH, ac_hsel, ac_as, ac_rs, ac_cs, ac_rcv, List.map_cons, List.map_nil, List.length_cons, List.length_nil, List.replicate, List.append_nil, List.cons_append, List.nil_append, List.getElem?_cons_zero, List.getElem?_cons_succ, List.set, Nat.zero_add, Nat.add_zero, Nat.le_refl, Nat.reduceAdd, Nat.reduceSub, Nat.reduceLeDiff, Int.reduceLT, Int.reduceLE, Int.reduceNeg, Int.reduceEq, true_and, and_true, true_or, or_true, not_true_eq_false, not_false_eq_true, false_implies, true_implies, implies_true, reduceIte, and_self, Int.reduceAdd, Int.reduceMul, Int.reduceSub, eq_self, Int.add_zero, Int.zero_add, String.reduceEq, Nat.zero_le, Option.some.injEq, Sum.inl.injEq, Sum.inr.injEq, reduceCtorEq, Int.reduceToNat, Option.toList_some, Option.toList_none, ac_cs, ac_c10, ac_c11, ac_c12, ac_c13, ac_c14, ac_c15, ac_c16, ac_c17, sc_E, sh_E, sc_I, sh_I, sc_II, sh_II, sc_III, sh_III, sc_R, sh_R, sc_RI, sh_RI, sc_RII, sh_RII, sc_RIII, sh_RIII, sc_RIIII, sh_RIIII, sc_RR, sh_RR, sc_RRI, sh_RRI, sc_RRR, sh_RRR, sc_RIR, sh_RIR, sc_RIRI, sh_RIRI, sc_RRII, sh_RRII, sc_RRIII, sh_RRIII, sc_RIIRR, sh_RIIRR, sc_RIIIRR, sh_RIIIRR, sc_RIIR, sh_RIIR, sc_RRIIR, sh_RRIIR, sc_RRIIIR, sh_RRIIIR, sc_RRIIIIR, sh_RRIIIIR, sc_RRIR, sh_RRIR, mt_k hN]
    refine ⟨0, by omega, rfl, ⟨_, hN2, fun k hk => by rw [tu_k (by omega), tu_k (by omega), tu_k (by omega), tu_k (by omega), tu_k (by omega)], fun q hq => ?_⟩, ⟨_, rfl⟩, rfl, rfl, rfl⟩
    obtain ⟨q0, q1, q2, q3, q4, q5, q6⟩ := GS_7 hq
    have mq : mtk (sT T) d q key = (1, mdn q) := by
      rw [k4]; exact mtk_dn (by rw [← q4]; exact e0) (by rw [← q0, ← q1]; exact er)
    rw [mq]
    obtain ⟨m0, m1, m2, m3, m4, m5, m6⟩ := mdn_e q
    refine ⟨rfl, GS_of ?_⟩
    show _ = mdn q 0 ∧ _ = mdn q 1 ∧ _ = mdn q 2 ∧ _ = mdn q 3 ∧ _ = mdn q 4 ∧ _ = mdn q 5 ∧ _ = mdn q 6
    rw [m0, m1, m2, m3, m4, m5, m6, ← q0, ← q3, ← q4]
    refine ⟨?_, ?_, ?_, ?_, ?_, ?_, ?_⟩ <;> simp only [tu_k, tu_s, ne_eq, Nat.reduceEqDiff, not_false_eq_true] <;> assumption
  | 4, hJ =>
    obtain ⟨hm, ⟨T', hN, ho, hq⟩, ⟨o, rfl⟩, rfl, rfl, rfl⟩ := hJ
    simp only [spX9_turns, vcX9_turns, mX9_turns, spX9_beside, spX9_comes, ac_ent, ldI, ldR, stI, stR, inc, cI, cJ, cN, bop, oAdd, oSub, oMul, oAnd, oOr, oXor, oShl, oShr, oUshr, oRem, oDiv, oMx, oMn, oI2l, oLcmp, oDup, oDup2, oDupX1, oPop, bIc, bI0, bNul, getI, getR, putI, putZ, putR, aLen, aldI, aldZ, aldJ, aldR, astI, astZ, astJ, astR, nwO, nwA, gsT, oObj, oCpy, oCln, oCst, rtI, rtZ, rtR, rtV, thr, call, callH, ac_hsel, ac_as, ac_rs, ac_cs, ac_rcv, List.map_cons, List.map_nil, List.length_cons, List.length_nil, List.replicate, List.append_nil, List.cons_append, List.nil_append, List.getElem?_cons_zero, List.getElem?_cons_succ, List.set, Nat.zero_add, Nat.add_zero, Nat.le_refl, Nat.reduceAdd, Nat.reduceSub, Nat.reduceLeDiff, Int.reduceLT, Int.reduceLE, Int.reduceNeg, Int.reduceEq, true_and, and_true, true_or, or_true, not_true_eq_false, not_false_eq_true, false_implies, true_implies, implies_true, reduceIte, and_self, Int.reduceAdd, Int.reduceMul, Int.reduceSub, eq_self, Int.add_zero, Int.zero_add, String.reduceEq, Nat.zero_le, Option.some.injEq, Sum.inl.injEq, Sum.inr.injEq, reduceCtorEq, Int.reduceToNat, Option.toList_some, Option.toList_none, ac_cs, ac_c10, ac_c11, ac_c12, ac_c13, ac_c14, ac_c15, ac_c16, ac_c17, sc_E, sh_E, sc_I, sh_I, sc_II, sh_II, sc_III, sh_III, sc_R, sh_R, sc_RI, sh_RI, sc_RII, sh_RII, sc_RIII, sh_RIII, sc_RIIII, sh_RIIII, sc_RR, sh_RR, sc_RRI, sh_RRI, sc_RRR, sh_RRR, sc_RIR, sh_RIR, sc_RIRI, sh_RIRI, sc_RRII, sh_RRII, sc_RRIII, sh_RRIII, sc_RIIRR, sh_RIIRR, sc_RIIIRR, sh_RIIIRR, sc_RIIR, sh_RIIR, sc_RRIIR, sh_RRIIR, sc_RRIIIR, sh_RRIIIR, sc_RRIIIIR, sh_RRIIIIR, sc_RRIR, sh_RRIR, hT]
    exact ⟨T', hN, ho, 1, rfl, fun q h => ⟨(hq q h).1.symm, (hq q h).2⟩⟩
  | j + 5, hJ => exact hJ.elim
