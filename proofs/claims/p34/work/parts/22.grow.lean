/-! ===== draws; loops, monsters, treasures; the farthest room ===== -/
theorem up_id (h : ac_H) (k : Nat) (a j : Int) : up h k a j (h k a j) = h := by
  funext k' a' j'
  simp only [up]
  split
  · rename_i q; rw [q.1, q.2.1, q.2.2]
  · rfl
def xk (x : Int) : Nat → Int
  | 0 => x
  | n + 1 => drw (xk x n)
theorem drw_r {x : Int} : 0 ≤ drw x ∧ drw x < 65537 := by unfold drw; omega
theorem xk_r {x : Int} (h : 0 ≤ x ∧ x < 65537) : ∀ n, 0 ≤ xk x n ∧ xk x n < 65537
  | 0 => h
  | n + 1 => drw_r
theorem xk_xk {x : Int} (a : Nat) : ∀ b, xk (xk x a) b = xk x (a + b)
  | 0 => rfl
  | b + 1 => by rw [xk, xk_xk a b]; rfl
def FLk (h : ac_H) (a : Int) : Prop := h 0 a 0 = 23 ∧ 0 ≤ h 400 a 0 ∧ h 400 a 0 < 16 ∧ h 0 (h 402 a 0) 0 = 10 ∧ h 1 (h 402 a 0) 0 = 16 ∧ h 0 (h 403 a 0) 0 = 10 ∧ h 1 (h 403 a 0) 0 = 16 ∧ h 0 (h 405 a 0) 0 = 10 ∧ h 1 (h 405 a 0) 0 = 16 ∧ h 0 (h 406 a 0) 0 = 10 ∧ h 1 (h 406 a 0) 0 = 16 ∧
  h 402 a 0 ≠ h 403 a 0 ∧ h 402 a 0 ≠ h 405 a 0 ∧ h 402 a 0 ≠ h 406 a 0 ∧ h 403 a 0 ≠ h 405 a 0 ∧ h 403 a 0 ≠ h 406 a 0 ∧ h 405 a 0 ≠ h 406 a 0
def DRk (h : ac_H) (d : Int) : Prop := h 0 d 0 = 21 ∧ 0 ≤ h 200 d 0 ∧ h 200 d 0 < 65537
theorem FLk_ast {h : ac_H} {a b : Int} {f : Int → Int} (hf : FLk h a) : FLk (ast h b f) a := by
  simp only [FLk, up_k, ast_k, up_kf, ast_kf, ne_eq, Nat.reduceEqDiff, not_false_eq_true] at hf ⊢
  exact hf
theorem FLk_200 {h : ac_H} {a b j v : Int} (hf : FLk h a) : FLk (up h 200 b j v) a := by
  simp only [FLk, up_k, ast_k, up_kf, ast_kf, ne_eq, Nat.reduceEqDiff, not_false_eq_true] at hf ⊢
  exact hf
theorem FLk_404 {h : ac_H} {a b j v : Int} (hf : FLk h a) : FLk (up h 404 b j v) a := by
  simp only [FLk, up_k, ast_k, up_kf, ast_kf, ne_eq, Nat.reduceEqDiff, not_false_eq_true] at hf ⊢
  exact hf
def glD (x : Int) (f : Int → Int) : Nat → Int → Int
  | 0 => f
  | n + 1 => dopn (glD x f n) (xk x (2 * n + 1) % 16) (xk x (2 * n + 2) % 4)
def glH (h : ac_H) (a d : Int) (n : Nat) : ac_H := up (ast h (h 402 a 0) (glD (h 200 d 0) (h 10 (h 402 a 0)) n)) 200 d 0 (xk (h 200 d 0) (2 * n))
theorem glH_k {h : ac_H} {a d : Int} {n k : Nat} {a' j : Int} (e1 : k ≠ 10) (e2 : k ≠ 200) : glH h a d n k a' j = h k a' j := by unfold glH; rw [up_k e2, ast_k e1]
theorem glH_200 {h : ac_H} {a d : Int} {n : Nat} : glH h a d n 200 d 0 = xk (h 200 d 0) (2 * n) := by unfold glH; rw [up_self]
theorem glH_D {h : ac_H} {a d : Int} {n : Nat} : glH h a d n 10 (h 402 a 0) = glD (h 200 d 0) (h 10 (h 402 a 0)) n := by unfold glH; funext j; rw [up_k (by decide), ast_10]
theorem glH_step (h : ac_H) (a d : Int) (n : Nat) : ast (up (up (glH h a d n) 200 d 0 (xk (h 200 d 0) (2 * n + 1))) 200 d 0 (xk (h 200 d 0) (2 * n + 2))) (h 402 a 0) (glD (h 200 d 0) (h 10 (h 402 a 0)) (n + 1)) = glH h a d (n + 1) := by
  funext k a' j
  simp only [glH, up, ast]
  by_cases e1 : k = 10
  · subst e1
    by_cases e2 : a' = h 402 a 0 <;> simp [e2]
  · by_cases e2 : k = 200
    · subst e2
      by_cases e3 : a' = d ∧ j = 0
      · rw [if_neg (by simp), if_pos ⟨rfl, e3⟩, if_pos ⟨rfl, e3⟩]; rfl
      · simp [e3]
    · simp [e1, e2]
def spX3_growLoops : ac_Sp := sc_RRI (fun a d t h => FLk h a ∧ DRk h d ∧ t ≤ 1000) (fun a d t h v h' => v = none ∧ h' = glH h a d t.toNat) (fun _ _ _ _ _ _ => False)
def ivX3_growLoops (a d t : Int) (h : ac_H) : Nat → Nat → ac_S := fun j m => match j with
  | 0 => fun L S g k n => m = t.toNat + 1 ∧ ent0 [some (.inr (.inl a)), some (.inr (.inl d)), some (.inl t), none, none] h L S g k n
  | 1 => fun L S g k n => ∃ (i : Nat) (x : Option ac_V), i ≤ t.toNat ∧ m = t.toNat - i ∧ L = [some (.inr (.inl a)), some (.inr (.inl d)), some (.inl t), some (.inl i), x] ∧ S = [] ∧ g = glH h a d i ∧ k = 0 ∧ n = 0
  | _ => fun _ _ _ _ _ => False
set_option maxRecDepth 100000 in
set_option maxHeartbeats 4000000 in
theorem mtX3_growLoops {G : ac_G} {l : Launch} : ac_Met G l yX3_growLoops mX3_growLoops 2 46 0 0 spX3_growLoops := by
  refine ac_meth (pcs := pcX3_growLoops) (B := fun P X J j => vcX3_growLoops spX1_next spX8_remainder spX3_openDoor P X J j) (by decide) rfl rfl rfl (fun P X J hJ j => sdX3_growLoops mtX1_next mtX8_remainder mtX3_openDoor P X J hJ j) (hp_RRI (by decide)) fun As h hp => ?_
  obtain ⟨a, d, t, rfl, hp⟩ := sh_RRI_inv hp
  obtain ⟨hf, hd, ht⟩ := hp
  refine ⟨ivX3_growLoops a d t h, t.toNat + 1, ⟨rfl, rfl, rfl, rfl, rfl, rfl⟩, fun j m L S g k n hI => ?_⟩
  match j, hI with
  | 0, hI =>
    obtain ⟨hm, rfl, rfl, rfl, rfl, rfl⟩ := hI
    simp only [spX3_growLoops, vcX3_growLoops, mX3_growLoops, spX1_next, spX8_remainder, spX3_openDoor, ac_ent, ldI, ldR, stI, stR, inc, cI, cJ, cN, bop, oAdd, oSub, oMul, oAnd, oOr, oXor, oShl, oShr, oUshr, oRem, oDiv, oMx, oMn, oI2l, oLcmp, oDup, oDup2, oDupX1, oPop, bIc, bI0, bNul, getI, getR, putI, putZ, putR, aLen, aldI, aldZ, aldJ, aldR, astI, astZ, astJ, astR, nwO, nwA, gsT, oObj, oCpy, oCln, oCst, rtI, rtZ, rtR, rtV, thr, call, callH, ac_hsel, ac_as, ac_rs, ac_cs, ac_rcv, List.map_cons, List.map_nil, List.length_cons, List.length_nil, List.replicate, List.append_nil, List.cons_append, List.nil_append, List.getElem?_cons_zero, List.getElem?_cons_succ, List.set, Nat.zero_add, Nat.add_zero, Nat.le_refl, Nat.reduceAdd, Nat.reduceSub, Nat.reduceLeDiff, Int.reduceLT, Int.reduceLE, Int.reduceNeg, Int.reduceEq, true_and, and_true, true_or, or_true, not_true_eq_false, not_false_eq_true, false_implies, true_implies, implies_true, reduceIte, and_self, Int.reduceAdd, Int.reduceMul, Int.reduceSub, eq_self, Int.add_zero, Int.zero_add, String.reduceEq, Nat.zero_le, Option.some.injEq, Sum.inl.injEq, Sum.inr.injEq, reduceCtorEq, Int.reduceToNat, Option.toList_some, Option.toList_none, ac_cs, ac_c10, ac_c11, ac_c12, ac_c13, ac_c14, ac_c15, ac_c16, ac_c17, sc_E, sh_E, sc_I, sh_I, sc_II, sh_II, sc_III, sh_III, sc_R, sh_R, sc_RI, sh_RI, sc_RII, sh_RII, sc_RIII, sh_RIII, sc_RIIII, sh_RIIII, sc_RR, sh_RR, sc_RRI, sh_RRI, sc_RRR, sh_RRR, sc_RIR, sh_RIR, sc_RIRI, sh_RIRI, sc_RRII, sh_RRII, sc_RRIII, sh_RRIII, sc_RIIRR, sh_RIIRR, sc_RIIIRR, sh_RIIIRR, sc_RIIR, sh_RIIR, sc_RRIIR, sh_RRIIR, sc_RRIIIR, sh_RRIIIR, sc_RRIIIIR, sh_RRIIIIR, sc_RRIR, sh_RRIR]
    exact ⟨t.toNat, by omega, 0, none, by omega, by omega, rfl, rfl, by simp [glH, glD, xk, ast_self, up_id], rfl, rfl⟩
  | 1, hI =>
    obtain ⟨i, x, i1, hm, rfl, rfl, rfl, rfl, rfl⟩ := hI
    simp only [spX3_growLoops, vcX3_growLoops, mX3_growLoops, spX1_next, spX8_remainder, spX3_openDoor, ac_ent, ldI, ldR, stI, stR, inc, cI, cJ, cN, bop, oAdd, oSub, oMul, oAnd, oOr, oXor, oShl, oShr, oUshr, oRem, oDiv, oMx, oMn, oI2l, oLcmp, oDup, oDup2, oDupX1, oPop, bIc, bI0, bNul, getI, getR, putI, putZ, putR, aLen, aldI, aldZ, aldJ, aldR, astI, astZ, astJ, astR, nwO, nwA, gsT, oObj, oCpy, oCln, oCst, rtI, rtZ, rtR, rtV, thr, call, callH, ac_hsel, ac_as, ac_rs, ac_cs, ac_rcv, List.map_cons, List.map_nil, List.length_cons, List.length_nil, List.replicate, List.append_nil, List.cons_append, List.nil_append, List.getElem?_cons_zero, List.getElem?_cons_succ, List.set, Nat.zero_add, Nat.add_zero, Nat.le_refl, Nat.reduceAdd, Nat.reduceSub, Nat.reduceLeDiff, Int.reduceLT, Int.reduceLE, Int.reduceNeg, Int.reduceEq, true_and, and_true, true_or, or_true, not_true_eq_false, not_false_eq_true, false_implies, true_implies, implies_true, reduceIte, and_self, Int.reduceAdd, Int.reduceMul, Int.reduceSub, eq_self, Int.add_zero, Int.zero_add, String.reduceEq, Nat.zero_le, Option.some.injEq, Sum.inl.injEq, Sum.inr.injEq, reduceCtorEq, Int.reduceToNat, Option.toList_some, Option.toList_none, ac_cs, ac_c10, ac_c11, ac_c12, ac_c13, ac_c14, ac_c15, ac_c16, ac_c17, sc_E, sh_E, sc_I, sh_I, sc_II, sh_II, sc_III, sh_III, sc_R, sh_R, sc_RI, sh_RI, sc_RII, sh_RII, sc_RIII, sh_RIII, sc_RIIII, sh_RIIII, sc_RR, sh_RR, sc_RRI, sh_RRI, sc_RRR, sh_RRR, sc_RIR, sh_RIR, sc_RIRI, sh_RIRI, sc_RRII, sh_RRII, sc_RRIII, sh_RRIII, sc_RIIRR, sh_RIIRR, sc_RIIIRR, sh_RIIIRR, sc_RIIR, sh_RIIR, sc_RRIIR, sh_RRIIR, sc_RRIIIR, sh_RRIIIR, sc_RRIIIIR, sh_RRIIIIR, sc_RRIR, sh_RRIR]
    refine ⟨fun q => by rw [show t.toNat = i by omega], fun q => ?_⟩
    have f1 := xk_r ⟨hd.2.1, hd.2.2⟩ (2 * i)
    obtain ⟨f2, f3, f4, f5, f6, -⟩ := id hf
    simp only [glH_k, glH_200, hd.1, f1.1, f1.2, up_k, ast_k, up_kf, ast_kf, ne_eq, Nat.reduceEqDiff, not_false_eq_true, ac_ent, ldI, ldR, stI, stR, inc, cI, cJ, cN, bop, oAdd, oSub, oMul, oAnd, oOr, oXor, oShl, oShr, oUshr, oRem, oDiv, oMx, oMn, oI2l, oLcmp, oDup, oDup2, oDupX1, oPop, bIc, bI0, bNul, getI, getR, putI, putZ, putR, aLen, aldI, aldZ, aldJ, aldR, astI, astZ, astJ, astR, nwO, nwA, gsT, oObj, oCpy, oCln, oCst, rtI, rtZ, rtR, rtV, thr, call, callH, ac_hsel, ac_as, ac_rs, ac_cs, ac_rcv, List.map_cons, List.map_nil, List.length_cons, List.length_nil, List.replicate, List.append_nil, List.cons_append, List.nil_append, List.getElem?_cons_zero, List.getElem?_cons_succ, List.set, Nat.zero_add, Nat.add_zero, Nat.le_refl, Nat.reduceAdd, Nat.reduceSub, Nat.reduceLeDiff, Int.reduceLT, Int.reduceLE, Int.reduceNeg, Int.reduceEq, true_and, and_true, true_or, or_true, not_true_eq_false, not_false_eq_true, false_implies, true_implies, implies_true, reduceIte, and_self, Int.reduceAdd, Int.reduceMul, Int.reduceSub, eq_self, Int.add_zero, Int.zero_add, String.reduceEq, Nat.zero_le, Option.some.injEq, Sum.inl.injEq, Sum.inr.injEq, reduceCtorEq, Int.reduceToNat, Option.toList_some, Option.toList_none, ac_cs, ac_c10, ac_c11, ac_c12, ac_c13, ac_c14, ac_c15, ac_c16, ac_c17, sc_E, sh_E, sc_I, sh_I, sc_II, sh_II, sc_III, sh_III, sc_R, sh_R, sc_RI, sh_RI, sc_RII, sh_RII, sc_RIII, sh_RIII, sc_RIIII, sh_RIIII, sc_RR, sh_RR, sc_RRI, sh_RRI, sc_RRR, sh_RRR, sc_RIR, sh_RIR, sc_RIRI, sh_RIRI, sc_RRII, sh_RRII, sc_RRIII, sh_RRIII, sc_RIIRR, sh_RIIRR, sc_RIIIRR, sh_RIIIRR, sc_RIIR, sh_RIIR, sc_RRIIR, sh_RRIIR, sc_RRIIIR, sh_RRIIIR, sc_RRIIIIR, sh_RRIIIIR, sc_RRIR, sh_RRIR]
    rintro v h' ⟨rfl, rfl⟩
    have g1 := xk_r ⟨hd.2.1, hd.2.2⟩ (2 * i + 1)
    have g2 := xk_r ⟨hd.2.1, hd.2.2⟩ (2 * i + 2)
    have e1 : drw (xk (h 200 d 0) (2 * i)) = xk (h 200 d 0) (2 * i + 1) := rfl
    have e2 : drw (xk (h 200 d 0) (2 * i + 1)) = xk (h 200 d 0) (2 * i + 2) := rfl
    simp only [e1, g1.1, ac_ent, ldI, ldR, stI, stR, inc, cI, cJ, cN, bop, oAdd, oSub, oMul, oAnd, oOr, oXor, oShl, oShr, oUshr, oRem, oDiv, oMx, oMn, oI2l, oLcmp, oDup, oDup2, oDupX1, oPop, bIc, bI0, bNul, getI, getR, putI, putZ, putR, aLen, aldI, aldZ, aldJ, aldR, astI, astZ, astJ, astR, nwO, nwA, gsT, oObj, oCpy, oCln, oCst, rtI, rtZ, rtR, rtV, thr, call, callH, ac_hsel, ac_as, ac_rs, ac_cs, ac_rcv, List.map_cons, List.map_nil, List.length_cons, List.length_nil, List.replicate, List.append_nil, List.cons_append, List.nil_append, List.getElem?_cons_zero, List.getElem?_cons_succ, List.set, Nat.zero_add, Nat.add_zero, Nat.le_refl, Nat.reduceAdd, Nat.reduceSub, Nat.reduceLeDiff, Int.reduceLT, Int.reduceLE, Int.reduceNeg, Int.reduceEq, true_and, and_true, true_or, or_true, not_true_eq_false, not_false_eq_true, false_implies, true_implies, implies_true, reduceIte, and_self, Int.reduceAdd, Int.reduceMul, Int.reduceSub, eq_self, Int.add_zero, Int.zero_add, String.reduceEq, Nat.zero_le, Option.some.injEq, Sum.inl.injEq, Sum.inr.injEq, reduceCtorEq, Int.reduceToNat, Option.toList_some, Option.toList_none, ac_cs, ac_c10, ac_c11, ac_c12, ac_c13, ac_c14, ac_c15, ac_c16, ac_c17, sc_E, sh_E, sc_I, sh_I, sc_II, sh_II, sc_III, sh_III, sc_R, sh_R, sc_RI, sh_RI, sc_RII, sh_RII, sc_RIII, sh_RIII, sc_RIIII, sh_RIIII, sc_RR, sh_RR, sc_RRI, sh_RRI, sc_RRR, sh_RRR, sc_RIR, sh_RIR, sc_RIRI, sh_RIRI, sc_RRII, sh_RRII, sc_RRIII, sh_RRIII, sc_RIIRR, sh_RIIRR, sc_RIIIRR, sh_RIIIRR, sc_RIIR, sh_RIIR, sc_RRIIR, sh_RRIIR, sc_RRIIIR, sh_RRIIIR, sc_RRIIIIR, sh_RRIIIIR, sc_RRIR, sh_RRIR]
    rintro v h' ⟨rfl, rfl⟩
    simp only [glH_k, hd.1, up_self, g1.1, g1.2, up_k, ast_k, up_kf, ast_kf, ne_eq, Nat.reduceEqDiff, not_false_eq_true, ac_ent, ldI, ldR, stI, stR, inc, cI, cJ, cN, bop, oAdd, oSub, oMul, oAnd, oOr, oXor, oShl, oShr, oUshr, oRem, oDiv, oMx, oMn, oI2l, oLcmp, oDup, oDup2, oDupX1, oPop, bIc, bI0, bNul, getI, getR, putI, putZ, putR, aLen, aldI, aldZ, aldJ, aldR, astI, astZ, astJ, astR, nwO, nwA, gsT, oObj, oCpy, oCln, oCst, rtI, rtZ, rtR, rtV, thr, call, callH, ac_hsel, ac_as, ac_rs, ac_cs, ac_rcv, List.map_cons, List.map_nil, List.length_cons, List.length_nil, List.replicate, List.append_nil, List.cons_append, List.nil_append, List.getElem?_cons_zero, List.getElem?_cons_succ, List.set, Nat.zero_add, Nat.add_zero, Nat.le_refl, Nat.reduceAdd, Nat.reduceSub, Nat.reduceLeDiff, Int.reduceLT, Int.reduceLE, Int.reduceNeg, Int.reduceEq, true_and, and_true, true_or, or_true, not_true_eq_false, not_false_eq_true, false_implies, true_implies, implies_true, reduceIte, and_self, Int.reduceAdd, Int.reduceMul, Int.reduceSub, eq_self, Int.add_zero, Int.zero_add, String.reduceEq, Nat.zero_le, Option.some.injEq, Sum.inl.injEq, Sum.inr.injEq, reduceCtorEq, Int.reduceToNat, Option.toList_some, Option.toList_none, ac_cs, ac_c10, ac_c11, ac_c12, ac_c13, ac_c14, ac_c15, ac_c16, ac_c17, sc_E, sh_E, sc_I, sh_I, sc_II, sh_II, sc_III, sh_III, sc_R, sh_R, sc_RI, sh_RI, sc_RII, sh_RII, sc_RIII, sh_RIII, sc_RIIII, sh_RIIII, sc_RR, sh_RR, sc_RRI, sh_RRI, sc_RRR, sh_RRR, sc_RIR, sh_RIR, sc_RIRI, sh_RIRI, sc_RRII, sh_RRII, sc_RRIII, sh_RRIII, sc_RIIRR, sh_RIIRR, sc_RIIIRR, sh_RIIIRR, sc_RIIR, sh_RIIR, sc_RRIIR, sh_RRIIR, sc_RRIIIR, sh_RRIIIR, sc_RRIIIIR, sh_RRIIIIR, sc_RRIR, sh_RRIR]
    rintro v h' ⟨rfl, rfl⟩
    simp only [e2, g2.1, ac_ent, ldI, ldR, stI, stR, inc, cI, cJ, cN, bop, oAdd, oSub, oMul, oAnd, oOr, oXor, oShl, oShr, oUshr, oRem, oDiv, oMx, oMn, oI2l, oLcmp, oDup, oDup2, oDupX1, oPop, bIc, bI0, bNul, getI, getR, putI, putZ, putR, aLen, aldI, aldZ, aldJ, aldR, astI, astZ, astJ, astR, nwO, nwA, gsT, oObj, oCpy, oCln, oCst, rtI, rtZ, rtR, rtV, thr, call, callH, ac_hsel, ac_as, ac_rs, ac_cs, ac_rcv, List.map_cons, List.map_nil, List.length_cons, List.length_nil, List.replicate, List.append_nil, List.cons_append, List.nil_append, List.getElem?_cons_zero, List.getElem?_cons_succ, List.set, Nat.zero_add, Nat.add_zero, Nat.le_refl, Nat.reduceAdd, Nat.reduceSub, Nat.reduceLeDiff, Int.reduceLT, Int.reduceLE, Int.reduceNeg, Int.reduceEq, true_and, and_true, true_or, or_true, not_true_eq_false, not_false_eq_true, false_implies, true_implies, implies_true, reduceIte, and_self, Int.reduceAdd, Int.reduceMul, Int.reduceSub, eq_self, Int.add_zero, Int.zero_add, String.reduceEq, Nat.zero_le, Option.some.injEq, Sum.inl.injEq, Sum.inr.injEq, reduceCtorEq, Int.reduceToNat, Option.toList_some, Option.toList_none, ac_cs, ac_c10, ac_c11, ac_c12, ac_c13, ac_c14, ac_c15, ac_c16, ac_c17, sc_E, sh_E, sc_I, sh_I, sc_II, sh_II, sc_III, sh_III, sc_R, sh_R, sc_RI, sh_RI, sc_RII, sh_RII, sc_RIII, sh_RIII, sc_RIIII, sh_RIIII, sc_RR, sh_RR, sc_RRI, sh_RRI, sc_RRR, sh_RRR, sc_RIR, sh_RIR, sc_RIRI, sh_RIRI, sc_RRII, sh_RRII, sc_RRIII, sh_RRIII, sc_RIIRR, sh_RIIRR, sc_RIIIRR, sh_RIIIRR, sc_RIIR, sh_RIIR, sc_RRIIR, sh_RRIIR, sc_RRIIIR, sh_RRIIIR, sc_RRIIIIR, sh_RRIIIIR, sc_RRIR, sh_RRIR]
    rintro v h' ⟨rfl, rfl⟩
    simp only [glH_k, f2, f5, f6, up_k, ast_k, up_kf, ast_kf, ne_eq, Nat.reduceEqDiff, not_false_eq_true, ac_ent, ldI, ldR, stI, stR, inc, cI, cJ, cN, bop, oAdd, oSub, oMul, oAnd, oOr, oXor, oShl, oShr, oUshr, oRem, oDiv, oMx, oMn, oI2l, oLcmp, oDup, oDup2, oDupX1, oPop, bIc, bI0, bNul, getI, getR, putI, putZ, putR, aLen, aldI, aldZ, aldJ, aldR, astI, astZ, astJ, astR, nwO, nwA, gsT, oObj, oCpy, oCln, oCst, rtI, rtZ, rtR, rtV, thr, call, callH, ac_hsel, ac_as, ac_rs, ac_cs, ac_rcv, List.map_cons, List.map_nil, List.length_cons, List.length_nil, List.replicate, List.append_nil, List.cons_append, List.nil_append, List.getElem?_cons_zero, List.getElem?_cons_succ, List.set, Nat.zero_add, Nat.add_zero, Nat.le_refl, Nat.reduceAdd, Nat.reduceSub, Nat.reduceLeDiff, Int.reduceLT, Int.reduceLE, Int.reduceNeg, Int.reduceEq, true_and, and_true, true_or, or_true, not_true_eq_false, not_false_eq_true, false_implies, true_implies, implies_true, reduceIte, and_self, Int.reduceAdd, Int.reduceMul, Int.reduceSub, eq_self, Int.add_zero, Int.zero_add, String.reduceEq, Nat.zero_le, Option.some.injEq, Sum.inl.injEq, Sum.inr.injEq, reduceCtorEq, Int.reduceToNat, Option.toList_some, Option.toList_none, ac_cs, ac_c10, ac_c11, ac_c12, ac_c13, ac_c14, ac_c15, ac_c16, ac_c17, sc_E, sh_E, sc_I, sh_I, sc_II, sh_II, sc_III, sh_III, sc_R, sh_R, sc_RI, sh_RI, sc_RII, sh_RII, sc_RIII, sh_RIII, sc_RIIII, sh_RIIII, sc_RR, sh_RR, sc_RRI, sh_RRI, sc_RRR, sh_RRR, sc_RIR, sh_RIR, sc_RIRI, sh_RIRI, sc_RRII, sh_RRII, sc_RRIII, sh_RRIII, sc_RIIRR, sh_RIIRR, sc_RIIIRR, sh_RIIIRR, sc_RIIR, sh_RIIR, sc_RRIIR, sh_RRIIR, sc_RRIIIR, sh_RRIIIR, sc_RRIIIIR, sh_RRIIIIR, sc_RRIR, sh_RRIR]
    refine ⟨⟨by omega, by omega, by omega, by omega⟩, ?_⟩
    rintro v h' ⟨rfl, rfl⟩
    refine ⟨t.toNat - i - 1, by omega, i + 1, some (.inl (xk (h 200 d 0) (2 * i + 1) % 16)), by omega, by omega, ?_, rfl, ?_, rfl, rfl⟩
    · simp (disch := omega) only [wr_of]
      rfl
    · simp only [glH_D, up_k, ast_k, up_kf, ast_kf, ne_eq, Nat.reduceEqDiff, not_false_eq_true]
      exact glH_step h a d i
  | j + 2, hI => exact hI.elim
/-- monsters: rooms and strengths drawn; none at the entry -/
def gmM (x e s : Int) (f : Int → Int) : Nat → Int → Int
  | 0 => f
  | n + 1 => if xk x (2 * n + 1) % 16 = e then gmM x e s f n else fu (gmM x e s f n) (xk x (2 * n + 1) % 16) (xk x (2 * n + 2) % s + 1)
def gmH (h : ac_H) (a d s : Int) (n : Nat) : ac_H := up (ast h (h 403 a 0) (gmM (h 200 d 0) (h 400 a 0) s (h 10 (h 403 a 0)) n)) 200 d 0 (xk (h 200 d 0) (2 * n))
theorem gmH_k {h : ac_H} {a d s : Int} {n k : Nat} {a' j : Int} (e1 : k ≠ 10) (e2 : k ≠ 200) : gmH h a d s n k a' j = h k a' j := by unfold gmH; rw [up_k e2, ast_k e1]
theorem gmH_200 {h : ac_H} {a d s : Int} {n : Nat} : gmH h a d s n 200 d 0 = xk (h 200 d 0) (2 * n) := by unfold gmH; rw [up_self]
theorem gmH_D {h : ac_H} {a d s : Int} {n : Nat} : gmH h a d s n 10 (h 403 a 0) = gmM (h 200 d 0) (h 400 a 0) s (h 10 (h 403 a 0)) n := by unfold gmH; funext j; rw [up_k (by decide), ast_10]
theorem gmH_step (h : ac_H) (a d s : Int) (n : Nat) : ast (up (up (gmH h a d s n) 200 d 0 (xk (h 200 d 0) (2 * n + 1))) 200 d 0 (xk (h 200 d 0) (2 * n + 2))) (h 403 a 0) (gmM (h 200 d 0) (h 400 a 0) s (h 10 (h 403 a 0)) (n + 1)) = gmH h a d s (n + 1) := by
  funext k a' j
  simp only [gmH, up, ast]
  by_cases e1 : k = 10
  · subst e1
    by_cases e2 : a' = h 403 a 0 <;> simp [e2]
  · by_cases e2 : k = 200
    · subst e2
      by_cases e3 : a' = d ∧ j = 0
      · rw [if_neg (by simp), if_pos ⟨rfl, e3⟩, if_pos ⟨rfl, e3⟩]; rfl
      · simp [e3]
    · simp [e1, e2]
theorem gmH_skip {h : ac_H} {a d s : Int} {n : Nat} (e : xk (h 200 d 0) (2 * n + 1) % 16 = h 400 a 0) : up (up (gmH h a d s n) 200 d 0 (xk (h 200 d 0) (2 * n + 1))) 200 d 0 (xk (h 200 d 0) (2 * n + 2)) = gmH h a d s (n + 1) := by
  rw [← gmH_step]
  rw [show gmM (h 200 d 0) (h 400 a 0) s (h 10 (h 403 a 0)) (n + 1) = gmM (h 200 d 0) (h 400 a 0) s (h 10 (h 403 a 0)) n by rw [gmM, if_pos e]]
  rw [← gmH_D, ← up_kf (h := gmH h a d s n) (k := 200) (a := d) (j := 0) (v := xk (h 200 d 0) (2 * n + 1)) (show (10 : Nat) ≠ 200 by decide), ← up_kf (h := up (gmH h a d s n) 200 d 0 (xk (h 200 d 0) (2 * n + 1))) (k := 200) (a := d) (j := 0) (v := xk (h 200 d 0) (2 * n + 2)) (show (10 : Nat) ≠ 200 by decide), ast_self]
def spX3_growMonsters : ac_Sp := sc_RRII (fun a d t s h => FLk h a ∧ DRk h d ∧ t ≤ 1000 ∧ 1 ≤ s ∧ s ≤ 1000) (fun a d t s h v h' => v = none ∧ h' = gmH h a d s t.toNat) (fun _ _ _ _ _ _ _ => False)
def ivX3_growMonsters (a d t s : Int) (h : ac_H) : Nat → Nat → ac_S := fun j m => match j with
  | 0 => fun L S g k n => m = t.toNat + 1 ∧ ent0 [some (.inr (.inl a)), some (.inr (.inl d)), some (.inl t), some (.inl s), none, none, none] h L S g k n
  | 1 => fun L S g k n => ∃ (i : Nat) (x y : Option ac_V), i ≤ t.toNat ∧ m = t.toNat - i ∧ L = [some (.inr (.inl a)), some (.inr (.inl d)), some (.inl t), some (.inl s), some (.inl i), x, y] ∧ S = [] ∧ g = gmH h a d s i ∧ k = 0 ∧ n = 0
  | _ => fun _ _ _ _ _ => False
set_option maxRecDepth 100000 in
set_option maxHeartbeats 4000000 in
theorem mtX3_growMonsters {G : ac_G} {l : Launch} : ac_Met G l yX3_growMonsters mX3_growMonsters 1 21 0 0 spX3_growMonsters := by
  refine ac_meth (pcs := pcX3_growMonsters) (B := fun P X J j => vcX3_growMonsters spX1_next spX8_remainder P X J j) (by decide) rfl rfl rfl (fun P X J hJ j => sdX3_growMonsters mtX1_next mtX8_remainder P X J hJ j) (hp_RRII (by decide)) fun As h hp => ?_
  obtain ⟨a, d, t, s, rfl, hp⟩ := sh_RRII_inv hp
  obtain ⟨hf, hd, ht, hs, hs2⟩ := hp
  refine ⟨ivX3_growMonsters a d t s h, t.toNat + 1, ⟨rfl, rfl, rfl, rfl, rfl, rfl⟩, fun j m L S g k n hI => ?_⟩
  match j, hI with
  | 0, hI =>
    obtain ⟨hm, rfl, rfl, rfl, rfl, rfl⟩ := hI
    simp only [spX3_growMonsters, vcX3_growMonsters, mX3_growMonsters, spX1_next, spX8_remainder, ac_ent, ldI, ldR, stI, stR, inc, cI, cJ, cN, bop, oAdd, oSub, oMul, oAnd, oOr, oXor, oShl, oShr, oUshr, oRem, oDiv, oMx, oMn, oI2l, oLcmp, oDup, oDup2, oDupX1, oPop, bIc, bI0, bNul, getI, getR, putI, putZ, putR, aLen, aldI, aldZ, aldJ, aldR, astI, astZ, astJ, astR, nwO, nwA, gsT, oObj, oCpy, oCln, oCst, rtI, rtZ, rtR, rtV, thr, call, callH, ac_hsel, ac_as, ac_rs, ac_cs, ac_rcv, List.map_cons, List.map_nil, List.length_cons, List.length_nil, List.replicate, List.append_nil, List.cons_append, List.nil_append, List.getElem?_cons_zero, List.getElem?_cons_succ, List.set, Nat.zero_add, Nat.add_zero, Nat.le_refl, Nat.reduceAdd, Nat.reduceSub, Nat.reduceLeDiff, Int.reduceLT, Int.reduceLE, Int.reduceNeg, Int.reduceEq, true_and, and_true, true_or, or_true, not_true_eq_false, not_false_eq_true, false_implies, true_implies, implies_true, reduceIte, and_self, Int.reduceAdd, Int.reduceMul, Int.reduceSub, eq_self, Int.add_zero, Int.zero_add, String.reduceEq, Nat.zero_le, Option.some.injEq, Sum.inl.injEq, Sum.inr.injEq, reduceCtorEq, Int.reduceToNat, Option.toList_some, Option.toList_none, ac_cs, ac_c10, ac_c11, ac_c12, ac_c13, ac_c14, ac_c15, ac_c16, ac_c17, sc_E, sh_E, sc_I, sh_I, sc_II, sh_II, sc_III, sh_III, sc_R, sh_R, sc_RI, sh_RI, sc_RII, sh_RII, sc_RIII, sh_RIII, sc_RIIII, sh_RIIII, sc_RR, sh_RR, sc_RRI, sh_RRI, sc_RRR, sh_RRR, sc_RIR, sh_RIR, sc_RIRI, sh_RIRI, sc_RRII, sh_RRII, sc_RRIII, sh_RRIII, sc_RIIRR, sh_RIIRR, sc_RIIIRR, sh_RIIIRR, sc_RIIR, sh_RIIR, sc_RRIIR, sh_RRIIR, sc_RRIIIR, sh_RRIIIR, sc_RRIIIIR, sh_RRIIIIR, sc_RRIR, sh_RRIR]
    exact ⟨t.toNat, by omega, 0, none, none, by omega, by omega, rfl, rfl, by simp [gmH, gmM, xk, ast_self, up_id], rfl, rfl⟩
  | 1, hI =>
    obtain ⟨i, x, y, i1, hm, rfl, rfl, rfl, rfl, rfl⟩ := hI
    simp only [spX3_growMonsters, vcX3_growMonsters, mX3_growMonsters, spX1_next, spX8_remainder, ac_ent, ldI, ldR, stI, stR, inc, cI, cJ, cN, bop, oAdd, oSub, oMul, oAnd, oOr, oXor, oShl, oShr, oUshr, oRem, oDiv, oMx, oMn, oI2l, oLcmp, oDup, oDup2, oDupX1, oPop, bIc, bI0, bNul, getI, getR, putI, putZ, putR, aLen, aldI, aldZ, aldJ, aldR, astI, astZ, astJ, astR, nwO, nwA, gsT, oObj, oCpy, oCln, oCst, rtI, rtZ, rtR, rtV, thr, call, callH, ac_hsel, ac_as, ac_rs, ac_cs, ac_rcv, List.map_cons, List.map_nil, List.length_cons, List.length_nil, List.replicate, List.append_nil, List.cons_append, List.nil_append, List.getElem?_cons_zero, List.getElem?_cons_succ, List.set, Nat.zero_add, Nat.add_zero, Nat.le_refl, Nat.reduceAdd, Nat.reduceSub, Nat.reduceLeDiff, Int.reduceLT, Int.reduceLE, Int.reduceNeg, Int.reduceEq, true_and, and_true, true_or, or_true, not_true_eq_false, not_false_eq_true, false_implies, true_implies, implies_true, reduceIte, and_self, Int.reduceAdd, Int.reduceMul, Int.reduceSub, eq_self, Int.add_zero, Int.zero_add, String.reduceEq, Nat.zero_le, Option.some.injEq, Sum.inl.injEq, Sum.inr.injEq, reduceCtorEq, Int.reduceToNat, Option.toList_some, Option.toList_none, ac_cs, ac_c10, ac_c11, ac_c12, ac_c13, ac_c14, ac_c15, ac_c16, ac_c17, sc_E, sh_E, sc_I, sh_I, sc_II, sh_II, sc_III, sh_III, sc_R, sh_R, sc_RI, sh_RI, sc_RII, sh_RII, sc_RIII, sh_RIII, sc_RIIII, sh_RIIII, sc_RR, sh_RR, sc_RRI, sh_RRI, sc_RRR, sh_RRR, sc_RIR, sh_RIR, sc_RIRI, sh_RIRI, sc_RRII, sh_RRII, sc_RRIII, sh_RRIII, sc_RIIRR, sh_RIIRR, sc_RIIIRR, sh_RIIIRR, sc_RIIR, sh_RIIR, sc_RRIIR, sh_RRIIR, sc_RRIIIR, sh_RRIIIR, sc_RRIIIIR, sh_RRIIIIR, sc_RRIR, sh_RRIR]
    refine ⟨fun q => by rw [show t.toNat = i by omega], fun q => ?_⟩
    have f1 := xk_r ⟨hd.2.1, hd.2.2⟩ (2 * i)
    obtain ⟨f2, f3, f4, f5, f6, f7, f8, -⟩ := id hf
    simp only [gmH_k, gmH_200, hd.1, f1.1, f1.2, up_k, ast_k, up_kf, ast_kf, ne_eq, Nat.reduceEqDiff, not_false_eq_true, ac_ent, ldI, ldR, stI, stR, inc, cI, cJ, cN, bop, oAdd, oSub, oMul, oAnd, oOr, oXor, oShl, oShr, oUshr, oRem, oDiv, oMx, oMn, oI2l, oLcmp, oDup, oDup2, oDupX1, oPop, bIc, bI0, bNul, getI, getR, putI, putZ, putR, aLen, aldI, aldZ, aldJ, aldR, astI, astZ, astJ, astR, nwO, nwA, gsT, oObj, oCpy, oCln, oCst, rtI, rtZ, rtR, rtV, thr, call, callH, ac_hsel, ac_as, ac_rs, ac_cs, ac_rcv, List.map_cons, List.map_nil, List.length_cons, List.length_nil, List.replicate, List.append_nil, List.cons_append, List.nil_append, List.getElem?_cons_zero, List.getElem?_cons_succ, List.set, Nat.zero_add, Nat.add_zero, Nat.le_refl, Nat.reduceAdd, Nat.reduceSub, Nat.reduceLeDiff, Int.reduceLT, Int.reduceLE, Int.reduceNeg, Int.reduceEq, true_and, and_true, true_or, or_true, not_true_eq_false, not_false_eq_true, false_implies, true_implies, implies_true, reduceIte, and_self, Int.reduceAdd, Int.reduceMul, Int.reduceSub, eq_self, Int.add_zero, Int.zero_add, String.reduceEq, Nat.zero_le, Option.some.injEq, Sum.inl.injEq, Sum.inr.injEq, reduceCtorEq, Int.reduceToNat, Option.toList_some, Option.toList_none, ac_cs, ac_c10, ac_c11, ac_c12, ac_c13, ac_c14, ac_c15, ac_c16, ac_c17, sc_E, sh_E, sc_I, sh_I, sc_II, sh_II, sc_III, sh_III, sc_R, sh_R, sc_RI, sh_RI, sc_RII, sh_RII, sc_RIII, sh_RIII, sc_RIIII, sh_RIIII, sc_RR, sh_RR, sc_RRI, sh_RRI, sc_RRR, sh_RRR, sc_RIR, sh_RIR, sc_RIRI, sh_RIRI, sc_RRII, sh_RRII, sc_RRIII, sh_RRIII, sc_RIIRR, sh_RIIRR, sc_RIIIRR, sh_RIIIRR, sc_RIIR, sh_RIIR, sc_RRIIR, sh_RRIIR, sc_RRIIIR, sh_RRIIIR, sc_RRIIIIR, sh_RRIIIIR, sc_RRIR, sh_RRIR]
    rintro v h' ⟨rfl, rfl⟩
    have g1 := xk_r ⟨hd.2.1, hd.2.2⟩ (2 * i + 1)
    have g2 := xk_r ⟨hd.2.1, hd.2.2⟩ (2 * i + 2)
    have e1 : drw (xk (h 200 d 0) (2 * i)) = xk (h 200 d 0) (2 * i + 1) := rfl
    have e2 : drw (xk (h 200 d 0) (2 * i + 1)) = xk (h 200 d 0) (2 * i + 2) := rfl
    simp only [e1, g1.1, ac_ent, ldI, ldR, stI, stR, inc, cI, cJ, cN, bop, oAdd, oSub, oMul, oAnd, oOr, oXor, oShl, oShr, oUshr, oRem, oDiv, oMx, oMn, oI2l, oLcmp, oDup, oDup2, oDupX1, oPop, bIc, bI0, bNul, getI, getR, putI, putZ, putR, aLen, aldI, aldZ, aldJ, aldR, astI, astZ, astJ, astR, nwO, nwA, gsT, oObj, oCpy, oCln, oCst, rtI, rtZ, rtR, rtV, thr, call, callH, ac_hsel, ac_as, ac_rs, ac_cs, ac_rcv, List.map_cons, List.map_nil, List.length_cons, List.length_nil, List.replicate, List.append_nil, List.cons_append, List.nil_append, List.getElem?_cons_zero, List.getElem?_cons_succ, List.set, Nat.zero_add, Nat.add_zero, Nat.le_refl, Nat.reduceAdd, Nat.reduceSub, Nat.reduceLeDiff, Int.reduceLT, Int.reduceLE, Int.reduceNeg, Int.reduceEq, true_and, and_true, true_or, or_true, not_true_eq_false, not_false_eq_true, false_implies, true_implies, implies_true, reduceIte, and_self, Int.reduceAdd, Int.reduceMul, Int.reduceSub, eq_self, Int.add_zero, Int.zero_add, String.reduceEq, Nat.zero_le, Option.some.injEq, Sum.inl.injEq, Sum.inr.injEq, reduceCtorEq, Int.reduceToNat, Option.toList_some, Option.toList_none, ac_cs, ac_c10, ac_c11, ac_c12, ac_c13, ac_c14, ac_c15, ac_c16, ac_c17, sc_E, sh_E, sc_I, sh_I, sc_II, sh_II, sc_III, sh_III, sc_R, sh_R, sc_RI, sh_RI, sc_RII, sh_RII, sc_RIII, sh_RIII, sc_RIIII, sh_RIIII, sc_RR, sh_RR, sc_RRI, sh_RRI, sc_RRR, sh_RRR, sc_RIR, sh_RIR, sc_RIRI, sh_RIRI, sc_RRII, sh_RRII, sc_RRIII, sh_RRIII, sc_RIIRR, sh_RIIRR, sc_RIIIRR, sh_RIIIRR, sc_RIIR, sh_RIIR, sc_RRIIR, sh_RRIIR, sc_RRIIIR, sh_RRIIIR, sc_RRIIIIR, sh_RRIIIIR, sc_RRIR, sh_RRIR]
    rintro v h' ⟨rfl, rfl⟩
    simp only [gmH_k, hd.1, up_self, g1.1, g1.2, up_k, ast_k, up_kf, ast_kf, ne_eq, Nat.reduceEqDiff, not_false_eq_true, ac_ent, ldI, ldR, stI, stR, inc, cI, cJ, cN, bop, oAdd, oSub, oMul, oAnd, oOr, oXor, oShl, oShr, oUshr, oRem, oDiv, oMx, oMn, oI2l, oLcmp, oDup, oDup2, oDupX1, oPop, bIc, bI0, bNul, getI, getR, putI, putZ, putR, aLen, aldI, aldZ, aldJ, aldR, astI, astZ, astJ, astR, nwO, nwA, gsT, oObj, oCpy, oCln, oCst, rtI, rtZ, rtR, rtV, thr, call, callH, ac_hsel, ac_as, ac_rs, ac_cs, ac_rcv, List.map_cons, List.map_nil, List.length_cons, List.length_nil, List.replicate, List.append_nil, List.cons_append, List.nil_append, List.getElem?_cons_zero, List.getElem?_cons_succ, List.set, Nat.zero_add, Nat.add_zero, Nat.le_refl, Nat.reduceAdd, Nat.reduceSub, Nat.reduceLeDiff, Int.reduceLT, Int.reduceLE, Int.reduceNeg, Int.reduceEq, true_and, and_true, true_or, or_true, not_true_eq_false, not_false_eq_true, false_implies, true_implies, implies_true, reduceIte, and_self, Int.reduceAdd, Int.reduceMul, Int.reduceSub, eq_self, Int.add_zero, Int.zero_add, String.reduceEq, Nat.zero_le, Option.some.injEq, Sum.inl.injEq, Sum.inr.injEq, reduceCtorEq, Int.reduceToNat, Option.toList_some, Option.toList_none, ac_cs, ac_c10, ac_c11, ac_c12, ac_c13, ac_c14, ac_c15, ac_c16, ac_c17, sc_E, sh_E, sc_I, sh_I, sc_II, sh_II, sc_III, sh_III, sc_R, sh_R, sc_RI, sh_RI, sc_RII, sh_RII, sc_RIII, sh_RIII, sc_RIIII, sh_RIIII, sc_RR, sh_RR, sc_RRI, sh_RRI, sc_RRR, sh_RRR, sc_RIR, sh_RIR, sc_RIRI, sh_RIRI, sc_RRII, sh_RRII, sc_RRIII, sh_RRIII, sc_RIIRR, sh_RIIRR, sc_RIIIRR, sh_RIIIRR, sc_RIIR, sh_RIIR, sc_RRIIR, sh_RRIIR, sc_RRIIIR, sh_RRIIIR, sc_RRIIIIR, sh_RRIIIIR, sc_RRIR, sh_RRIR]
    rintro v h' ⟨rfl, rfl⟩
    simp only [e2, g2.1, show 0 < s by omega, ac_ent, ldI, ldR, stI, stR, inc, cI, cJ, cN, bop, oAdd, oSub, oMul, oAnd, oOr, oXor, oShl, oShr, oUshr, oRem, oDiv, oMx, oMn, oI2l, oLcmp, oDup, oDup2, oDupX1, oPop, bIc, bI0, bNul, getI, getR, putI, putZ, putR, aLen, aldI, aldZ, aldJ, aldR, astI, astZ, astJ, astR, nwO, nwA, gsT, oObj, oCpy, oCln, oCst, rtI, rtZ, rtR, rtV, thr, call, callH, ac_hsel, ac_as, ac_rs, ac_cs, ac_rcv, List.map_cons, List.map_nil, List.length_cons, List.length_nil, List.replicate, List.append_nil, List.cons_append, List.nil_append, List.getElem?_cons_zero, List.getElem?_cons_succ, List.set, Nat.zero_add, Nat.add_zero, Nat.le_refl, Nat.reduceAdd, Nat.reduceSub, Nat.reduceLeDiff, Int.reduceLT, Int.reduceLE, Int.reduceNeg, Int.reduceEq, true_and, and_true, true_or, or_true, not_true_eq_false, not_false_eq_true, false_implies, true_implies, implies_true, reduceIte, and_self, Int.reduceAdd, Int.reduceMul, Int.reduceSub, eq_self, Int.add_zero, Int.zero_add, String.reduceEq, Nat.zero_le, Option.some.injEq, Sum.inl.injEq, Sum.inr.injEq, reduceCtorEq, Int.reduceToNat, Option.toList_some, Option.toList_none, ac_cs, ac_c10, ac_c11, ac_c12, ac_c13, ac_c14, ac_c15, ac_c16, ac_c17, sc_E, sh_E, sc_I, sh_I, sc_II, sh_II, sc_III, sh_III, sc_R, sh_R, sc_RI, sh_RI, sc_RII, sh_RII, sc_RIII, sh_RIII, sc_RIIII, sh_RIIII, sc_RR, sh_RR, sc_RRI, sh_RRI, sc_RRR, sh_RRR, sc_RIR, sh_RIR, sc_RIRI, sh_RIRI, sc_RRII, sh_RRII, sc_RRIII, sh_RRIII, sc_RIIRR, sh_RIIRR, sc_RIIIRR, sh_RIIIRR, sc_RIIR, sh_RIIR, sc_RRIIR, sh_RRIIR, sc_RRIIIR, sh_RRIIIR, sc_RRIIIIR, sh_RRIIIIR, sc_RRIR, sh_RRIR]
    rintro v h' ⟨rfl, rfl⟩
    have m0 : 0 ≤ xk (h 200 d 0) (2 * i + 2) % s := Int.emod_nonneg _ (by omega)
    have m1 : xk (h 200 d 0) (2 * i + 2) % s < s := Int.emod_lt_of_pos _ (by omega)
    have m2 : 0 ≤ xk (h 200 d 0) (2 * i + 1) % 16 ∧ xk (h 200 d 0) (2 * i + 1) % 16 < 16 := by omega
    simp only [gmH_k, f2, f7, f8, up_k, ast_k, up_kf, ast_kf, ne_eq, Nat.reduceEqDiff, not_false_eq_true, ac_ent, ldI, ldR, stI, stR, inc, cI, cJ, cN, bop, oAdd, oSub, oMul, oAnd, oOr, oXor, oShl, oShr, oUshr, oRem, oDiv, oMx, oMn, oI2l, oLcmp, oDup, oDup2, oDupX1, oPop, bIc, bI0, bNul, getI, getR, putI, putZ, putR, aLen, aldI, aldZ, aldJ, aldR, astI, astZ, astJ, astR, nwO, nwA, gsT, oObj, oCpy, oCln, oCst, rtI, rtZ, rtR, rtV, thr, call, callH, ac_hsel, ac_as, ac_rs, ac_cs, ac_rcv, List.map_cons, List.map_nil, List.length_cons, List.length_nil, List.replicate, List.append_nil, List.cons_append, List.nil_append, List.getElem?_cons_zero, List.getElem?_cons_succ, List.set, Nat.zero_add, Nat.add_zero, Nat.le_refl, Nat.reduceAdd, Nat.reduceSub, Nat.reduceLeDiff, Int.reduceLT, Int.reduceLE, Int.reduceNeg, Int.reduceEq, true_and, and_true, true_or, or_true, not_true_eq_false, not_false_eq_true, false_implies, true_implies, implies_true, reduceIte, and_self, Int.reduceAdd, Int.reduceMul, Int.reduceSub, eq_self, Int.add_zero, Int.zero_add, String.reduceEq, Nat.zero_le, Option.some.injEq, Sum.inl.injEq, Sum.inr.injEq, reduceCtorEq, Int.reduceToNat, Option.toList_some, Option.toList_none, ac_cs, ac_c10, ac_c11, ac_c12, ac_c13, ac_c14, ac_c15, ac_c16, ac_c17, sc_E, sh_E, sc_I, sh_I, sc_II, sh_II, sc_III, sh_III, sc_R, sh_R, sc_RI, sh_RI, sc_RII, sh_RII, sc_RIII, sh_RIII, sc_RIIII, sh_RIIII, sc_RR, sh_RR, sc_RRI, sh_RRI, sc_RRR, sh_RRR, sc_RIR, sh_RIR, sc_RIRI, sh_RIRI, sc_RRII, sh_RRII, sc_RRIII, sh_RRIII, sc_RIIRR, sh_RIIRR, sc_RIIIRR, sh_RIIIRR, sc_RIIR, sh_RIIR, sc_RRIIR, sh_RRIIR, sc_RRIIIR, sh_RRIIIR, sc_RRIIIIR, sh_RRIIIIR, sc_RRIR, sh_RRIR]
    simp (disch := omega) only [wr_of]
    refine ⟨fun e => ⟨t.toNat - i - 1, by omega, i + 1, _, _, by omega, by omega, rfl, rfl, gmH_skip e, rfl, rfl⟩, fun e => ⟨m2, ?_⟩⟩
    refine ⟨t.toNat - i - 1, by omega, i + 1, _, _, by omega, by omega, rfl, rfl, ?_, rfl, rfl⟩
    rw [up10]
    simp only [gmH_D, up_k, ast_k, up_kf, ast_kf, ne_eq, Nat.reduceEqDiff, not_false_eq_true]
    rw [← gmH_step, gmM, if_neg e]
  | j + 2, hI => exact hI.elim
/-- treasures as bits -/
def gtT (x b : Int) : Nat → Int
  | 0 => b
  | n + 1 => ior (gtT x b n) (ishl 1 (xk x (n + 1) % 16))
def gtH (h : ac_H) (a d : Int) (n : Nat) : ac_H := up (up h 404 a 0 (gtT (h 200 d 0) (h 404 a 0) n)) 200 d 0 (xk (h 200 d 0) n)
theorem gtH_k {h : ac_H} {a d : Int} {n k : Nat} {a' j : Int} (e1 : k ≠ 404) (e2 : k ≠ 200) : gtH h a d n k a' j = h k a' j := by unfold gtH; rw [up_k e2, up_k e1]
theorem gtH_200 {h : ac_H} {a d : Int} {n : Nat} : gtH h a d n 200 d 0 = xk (h 200 d 0) n := by unfold gtH; rw [up_self]
theorem gtH_404 {h : ac_H} {a d : Int} {n : Nat} : gtH h a d n 404 a 0 = gtT (h 200 d 0) (h 404 a 0) n := by unfold gtH; rw [up_k (by decide), up_self]
theorem gtH_step (h : ac_H) (a d : Int) (n : Nat) : up (up (gtH h a d n) 200 d 0 (xk (h 200 d 0) (n + 1))) 404 a 0 (gtT (h 200 d 0) (h 404 a 0) (n + 1)) = gtH h a d (n + 1) := by
  funext k a' j
  simp only [gtH, up]
  by_cases e1 : k = 404
  · subst e1
    by_cases e2 : a' = a ∧ j = 0 <;> simp [e2]
  · by_cases e2 : k = 200
    · subst e2
      by_cases e3 : a' = d ∧ j = 0 <;> simp [e3]
    · simp [e1, e2]
def spX3_growTreasures : ac_Sp := sc_RRI (fun a d t h => FLk h a ∧ DRk h d ∧ t ≤ 1000) (fun a d t h v h' => v = none ∧ h' = gtH h a d t.toNat) (fun _ _ _ _ _ _ => False)
def ivX3_growTreasures (a d t : Int) (h : ac_H) : Nat → Nat → ac_S := fun j m => match j with
  | 0 => fun L S g k n => m = t.toNat + 1 ∧ ent0 [some (.inr (.inl a)), some (.inr (.inl d)), some (.inl t), none] h L S g k n
  | 1 => fun L S g k n => ∃ (i : Nat), i ≤ t.toNat ∧ m = t.toNat - i ∧ L = [some (.inr (.inl a)), some (.inr (.inl d)), some (.inl t), some (.inl i)] ∧ S = [] ∧ g = gtH h a d i ∧ k = 0 ∧ n = 0
  | _ => fun _ _ _ _ _ => False
set_option maxRecDepth 100000 in
set_option maxHeartbeats 4000000 in
theorem mtX3_growTreasures {G : ac_G} {l : Launch} : ac_Met G l yX3_growTreasures mX3_growTreasures 1 21 0 0 spX3_growTreasures := by
  refine ac_meth (pcs := pcX3_growTreasures) (B := fun P X J j => vcX3_growTreasures spX1_next spX8_remainder P X J j) (by decide) rfl rfl rfl (fun P X J hJ j => sdX3_growTreasures mtX1_next mtX8_remainder P X J hJ j) (hp_RRI (by decide)) fun As h hp => ?_
  obtain ⟨a, d, t, rfl, hp⟩ := sh_RRI_inv hp
  obtain ⟨hf, hd, ht⟩ := hp
  refine ⟨ivX3_growTreasures a d t h, t.toNat + 1, ⟨rfl, rfl, rfl, rfl, rfl, rfl⟩, fun j m L S g k n hI => ?_⟩
  match j, hI with
  | 0, hI =>
    obtain ⟨hm, rfl, rfl, rfl, rfl, rfl⟩ := hI
    simp only [spX3_growTreasures, vcX3_growTreasures, mX3_growTreasures, spX1_next, spX8_remainder, ac_ent, ldI, ldR, stI, stR, inc, cI, cJ, cN, bop, oAdd, oSub, oMul, oAnd, oOr, oXor, oShl, oShr, oUshr, oRem, oDiv, oMx, oMn, oI2l, oLcmp, oDup, oDup2, oDupX1, oPop, bIc, bI0, bNul, getI, getR, putI, putZ, putR, aLen, aldI, aldZ, aldJ, aldR, astI, astZ, astJ, astR, nwO, nwA, gsT, oObj, oCpy, oCln, oCst, rtI, rtZ, rtR, rtV, thr, call, callH, ac_hsel, ac_as, ac_rs, ac_cs, ac_rcv, List.map_cons, List.map_nil, List.length_cons, List.length_nil, List.replicate, List.append_nil, List.cons_append, List.nil_append, List.getElem?_cons_zero, List.getElem?_cons_succ, List.set, Nat.zero_add, Nat.add_zero, Nat.le_refl, Nat.reduceAdd, Nat.reduceSub, Nat.reduceLeDiff, Int.reduceLT, Int.reduceLE, Int.reduceNeg, Int.reduceEq, true_and, and_true, true_or, or_true, not_true_eq_false, not_false_eq_true, false_implies, true_implies, implies_true, reduceIte, and_self, Int.reduceAdd, Int.reduceMul, Int.reduceSub, eq_self, Int.add_zero, Int.zero_add, String.reduceEq, Nat.zero_le, Option.some.injEq, Sum.inl.injEq, Sum.inr.injEq, reduceCtorEq, Int.reduceToNat, Option.toList_some, Option.toList_none, ac_cs, ac_c10, ac_c11, ac_c12, ac_c13, ac_c14, ac_c15, ac_c16, ac_c17, sc_E, sh_E, sc_I, sh_I, sc_II, sh_II, sc_III, sh_III, sc_R, sh_R, sc_RI, sh_RI, sc_RII, sh_RII, sc_RIII, sh_RIII, sc_RIIII, sh_RIIII, sc_RR, sh_RR, sc_RRI, sh_RRI, sc_RRR, sh_RRR, sc_RIR, sh_RIR, sc_RIRI, sh_RIRI, sc_RRII, sh_RRII, sc_RRIII, sh_RRIII, sc_RIIRR, sh_RIIRR, sc_RIIIRR, sh_RIIIRR, sc_RIIR, sh_RIIR, sc_RRIIR, sh_RRIIR, sc_RRIIIR, sh_RRIIIR, sc_RRIIIIR, sh_RRIIIIR, sc_RRIR, sh_RRIR]
    exact ⟨t.toNat, by omega, 0, by omega, by omega, rfl, rfl, by simp [gtH, gtT, xk, up_id], rfl, rfl⟩
  | 1, hI =>
    obtain ⟨i, i1, hm, rfl, rfl, rfl, rfl, rfl⟩ := hI
    simp only [spX3_growTreasures, vcX3_growTreasures, mX3_growTreasures, spX1_next, spX8_remainder, ac_ent, ldI, ldR, stI, stR, inc, cI, cJ, cN, bop, oAdd, oSub, oMul, oAnd, oOr, oXor, oShl, oShr, oUshr, oRem, oDiv, oMx, oMn, oI2l, oLcmp, oDup, oDup2, oDupX1, oPop, bIc, bI0, bNul, getI, getR, putI, putZ, putR, aLen, aldI, aldZ, aldJ, aldR, astI, astZ, astJ, astR, nwO, nwA, gsT, oObj, oCpy, oCln, oCst, rtI, rtZ, rtR, rtV, thr, call, callH, ac_hsel, ac_as, ac_rs, ac_cs, ac_rcv, List.map_cons, List.map_nil, List.length_cons, List.length_nil, List.replicate, List.append_nil, List.cons_append, List.nil_append, List.getElem?_cons_zero, List.getElem?_cons_succ, List.set, Nat.zero_add, Nat.add_zero, Nat.le_refl, Nat.reduceAdd, Nat.reduceSub, Nat.reduceLeDiff, Int.reduceLT, Int.reduceLE, Int.reduceNeg, Int.reduceEq, true_and, and_true, true_or, or_true, not_true_eq_false, not_false_eq_true, false_implies, true_implies, implies_true, reduceIte, and_self, Int.reduceAdd, Int.reduceMul, Int.reduceSub, eq_self, Int.add_zero, Int.zero_add, String.reduceEq, Nat.zero_le, Option.some.injEq, Sum.inl.injEq, Sum.inr.injEq, reduceCtorEq, Int.reduceToNat, Option.toList_some, Option.toList_none, ac_cs, ac_c10, ac_c11, ac_c12, ac_c13, ac_c14, ac_c15, ac_c16, ac_c17, sc_E, sh_E, sc_I, sh_I, sc_II, sh_II, sc_III, sh_III, sc_R, sh_R, sc_RI, sh_RI, sc_RII, sh_RII, sc_RIII, sh_RIII, sc_RIIII, sh_RIIII, sc_RR, sh_RR, sc_RRI, sh_RRI, sc_RRR, sh_RRR, sc_RIR, sh_RIR, sc_RIRI, sh_RIRI, sc_RRII, sh_RRII, sc_RRIII, sh_RRIII, sc_RIIRR, sh_RIIRR, sc_RIIIRR, sh_RIIIRR, sc_RIIR, sh_RIIR, sc_RRIIR, sh_RRIIR, sc_RRIIIR, sh_RRIIIR, sc_RRIIIIR, sh_RRIIIIR, sc_RRIR, sh_RRIR]
    refine ⟨fun q => by rw [show t.toNat = i by omega], fun q => ?_⟩
    have f1 := xk_r ⟨hd.2.1, hd.2.2⟩ i
    obtain ⟨f2, f3, f4, f5, f6, f7, f8, -⟩ := id hf
    simp only [gtH_k, gtH_200, gtH_404, f2, hd.1, f1.1, f1.2, up_k, ast_k, up_kf, ast_kf, ne_eq, Nat.reduceEqDiff, not_false_eq_true, ac_ent, ldI, ldR, stI, stR, inc, cI, cJ, cN, bop, oAdd, oSub, oMul, oAnd, oOr, oXor, oShl, oShr, oUshr, oRem, oDiv, oMx, oMn, oI2l, oLcmp, oDup, oDup2, oDupX1, oPop, bIc, bI0, bNul, getI, getR, putI, putZ, putR, aLen, aldI, aldZ, aldJ, aldR, astI, astZ, astJ, astR, nwO, nwA, gsT, oObj, oCpy, oCln, oCst, rtI, rtZ, rtR, rtV, thr, call, callH, ac_hsel, ac_as, ac_rs, ac_cs, ac_rcv, List.map_cons, List.map_nil, List.length_cons, List.length_nil, List.replicate, List.append_nil, List.cons_append, List.nil_append, List.getElem?_cons_zero, List.getElem?_cons_succ, List.set, Nat.zero_add, Nat.add_zero, Nat.le_refl, Nat.reduceAdd, Nat.reduceSub, Nat.reduceLeDiff, Int.reduceLT, Int.reduceLE, Int.reduceNeg, Int.reduceEq, true_and, and_true, true_or, or_true, not_true_eq_false, not_false_eq_true, false_implies, true_implies, implies_true, reduceIte, and_self, Int.reduceAdd, Int.reduceMul, Int.reduceSub, eq_self, Int.add_zero, Int.zero_add, String.reduceEq, Nat.zero_le, Option.some.injEq, Sum.inl.injEq, Sum.inr.injEq, reduceCtorEq, Int.reduceToNat, Option.toList_some, Option.toList_none, ac_cs, ac_c10, ac_c11, ac_c12, ac_c13, ac_c14, ac_c15, ac_c16, ac_c17, sc_E, sh_E, sc_I, sh_I, sc_II, sh_II, sc_III, sh_III, sc_R, sh_R, sc_RI, sh_RI, sc_RII, sh_RII, sc_RIII, sh_RIII, sc_RIIII, sh_RIIII, sc_RR, sh_RR, sc_RRI, sh_RRI, sc_RRR, sh_RRR, sc_RIR, sh_RIR, sc_RIRI, sh_RIRI, sc_RRII, sh_RRII, sc_RRIII, sh_RRIII, sc_RIIRR, sh_RIIRR, sc_RIIIRR, sh_RIIIRR, sc_RIIR, sh_RIIR, sc_RRIIR, sh_RRIIR, sc_RRIIIR, sh_RRIIIR, sc_RRIIIIR, sh_RRIIIIR, sc_RRIR, sh_RRIR]
    rintro v h' ⟨rfl, rfl⟩
    have g1 := xk_r ⟨hd.2.1, hd.2.2⟩ (i + 1)
    have e1 : drw (xk (h 200 d 0) i) = xk (h 200 d 0) (i + 1) := rfl
    simp only [e1, g1.1, ac_ent, ldI, ldR, stI, stR, inc, cI, cJ, cN, bop, oAdd, oSub, oMul, oAnd, oOr, oXor, oShl, oShr, oUshr, oRem, oDiv, oMx, oMn, oI2l, oLcmp, oDup, oDup2, oDupX1, oPop, bIc, bI0, bNul, getI, getR, putI, putZ, putR, aLen, aldI, aldZ, aldJ, aldR, astI, astZ, astJ, astR, nwO, nwA, gsT, oObj, oCpy, oCln, oCst, rtI, rtZ, rtR, rtV, thr, call, callH, ac_hsel, ac_as, ac_rs, ac_cs, ac_rcv, List.map_cons, List.map_nil, List.length_cons, List.length_nil, List.replicate, List.append_nil, List.cons_append, List.nil_append, List.getElem?_cons_zero, List.getElem?_cons_succ, List.set, Nat.zero_add, Nat.add_zero, Nat.le_refl, Nat.reduceAdd, Nat.reduceSub, Nat.reduceLeDiff, Int.reduceLT, Int.reduceLE, Int.reduceNeg, Int.reduceEq, true_and, and_true, true_or, or_true, not_true_eq_false, not_false_eq_true, false_implies, true_implies, implies_true, reduceIte, and_self, Int.reduceAdd, Int.reduceMul, Int.reduceSub, eq_self, Int.add_zero, Int.zero_add, String.reduceEq, Nat.zero_le, Option.some.injEq, Sum.inl.injEq, Sum.inr.injEq, reduceCtorEq, Int.reduceToNat, Option.toList_some, Option.toList_none, ac_cs, ac_c10, ac_c11, ac_c12, ac_c13, ac_c14, ac_c15, ac_c16, ac_c17, sc_E, sh_E, sc_I, sh_I, sc_II, sh_II, sc_III, sh_III, sc_R, sh_R, sc_RI, sh_RI, sc_RII, sh_RII, sc_RIII, sh_RIII, sc_RIIII, sh_RIIII, sc_RR, sh_RR, sc_RRI, sh_RRI, sc_RRR, sh_RRR, sc_RIR, sh_RIR, sc_RIRI, sh_RIRI, sc_RRII, sh_RRII, sc_RRIII, sh_RRIII, sc_RIIRR, sh_RIIRR, sc_RIIIRR, sh_RIIIRR, sc_RIIR, sh_RIIR, sc_RRIIR, sh_RRIIR, sc_RRIIIR, sh_RRIIIR, sc_RRIIIIR, sh_RRIIIIR, sc_RRIR, sh_RRIR]
    rintro v h' ⟨rfl, rfl⟩
    simp only [gtH_k, f2, up_k, ast_k, up_kf, ast_kf, ne_eq, Nat.reduceEqDiff, not_false_eq_true, ac_ent, ldI, ldR, stI, stR, inc, cI, cJ, cN, bop, oAdd, oSub, oMul, oAnd, oOr, oXor, oShl, oShr, oUshr, oRem, oDiv, oMx, oMn, oI2l, oLcmp, oDup, oDup2, oDupX1, oPop, bIc, bI0, bNul, getI, getR, putI, putZ, putR, aLen, aldI, aldZ, aldJ, aldR, astI, astZ, astJ, astR, nwO, nwA, gsT, oObj, oCpy, oCln, oCst, rtI, rtZ, rtR, rtV, thr, call, callH, ac_hsel, ac_as, ac_rs, ac_cs, ac_rcv, List.map_cons, List.map_nil, List.length_cons, List.length_nil, List.replicate, List.append_nil, List.cons_append, List.nil_append, List.getElem?_cons_zero, List.getElem?_cons_succ, List.set, Nat.zero_add, Nat.add_zero, Nat.le_refl, Nat.reduceAdd, Nat.reduceSub, Nat.reduceLeDiff, Int.reduceLT, Int.reduceLE, Int.reduceNeg, Int.reduceEq, true_and, and_true, true_or, or_true, not_true_eq_false, not_false_eq_true, false_implies, true_implies, implies_true, reduceIte, and_self, Int.reduceAdd, Int.reduceMul, Int.reduceSub, eq_self, Int.add_zero, Int.zero_add, String.reduceEq, Nat.zero_le, Option.some.injEq, Sum.inl.injEq, Sum.inr.injEq, reduceCtorEq, Int.reduceToNat, Option.toList_some, Option.toList_none, ac_cs, ac_c10, ac_c11, ac_c12, ac_c13, ac_c14, ac_c15, ac_c16, ac_c17, sc_E, sh_E, sc_I, sh_I, sc_II, sh_II, sc_III, sh_III, sc_R, sh_R, sc_RI, sh_RI, sc_RII, sh_RII, sc_RIII, sh_RIII, sc_RIIII, sh_RIIII, sc_RR, sh_RR, sc_RRI, sh_RRI, sc_RRR, sh_RRR, sc_RIR, sh_RIR, sc_RIRI, sh_RIRI, sc_RRII, sh_RRII, sc_RRIII, sh_RRIII, sc_RIIRR, sh_RIIRR, sc_RIIIRR, sh_RIIIRR, sc_RIIR, sh_RIIR, sc_RRIIR, sh_RRIIR, sc_RRIIIR, sh_RRIIIR, sc_RRIIIIR, sh_RRIIIIR, sc_RRIR, sh_RRIR]
    simp (disch := omega) only [wr_of]
    exact ⟨t.toNat - i - 1, by omega, i + 1, by omega, by omega, rfl, rfl, gtH_step h a d i, rfl, rfl⟩
  | j + 2, hI => exact hI.elim
/-- the first of the farthest rooms -/
def fmx (f : Int → Int) : Nat → Int
  | 0 => 0
  | n + 1 => if f (fmx f n) < f (n + 1) then n + 1 else fmx f n
theorem fmx_r {f : Int → Int} : ∀ n, 0 ≤ fmx f n ∧ fmx f n ≤ n
  | 0 => by simp [fmx]
  | n + 1 => by
    have := fmx_r (f := f) n
    rw [fmx]
    split <;> omega
theorem fmx_mx {f : Int → Int} : ∀ (n : Nat) (j : Int), 0 ≤ j → j ≤ n → f j ≤ f (fmx f n)
  | 0, j, a, b => by rw [show j = 0 by omega]; exact Int.le_refl _
  | n + 1, j, a, b => by
    have h := fun q => fmx_mx (f := f) n j a q
    rw [fmx]
    by_cases c : f (fmx f n) < f (n + 1)
    · rw [if_pos c]
      by_cases e : j = (n : Int) + 1
      · rw [e]; exact Int.le_refl _
      · have := h (by omega)
        show f j ≤ f ((n : Int) + 1)
        omega
    · rw [if_neg c]
      by_cases e : j = (n : Int) + 1
      · rw [e]; omega
      · exact h (by omega)
/-- the farthest room of those that were looked at, and how far it is -/
def fmy (f : Int → Int) (e : Int) : Nat → Int × Int
  | 0 => (e, 0)
  | n + 1 => if (fmy f e n).2 < f n then ((n : Int), f n) else fmy f e n
theorem fmy_fmx {f : Int → Int} {e : Int} : ∀ n : Nat, (0 < f (fmx f n) → fmy f e (n + 1) = (fmx f n, f (fmx f n))) ∧ (f (fmx f n) ≤ 0 → fmy f e (n + 1) = (e, 0))
  | 0 => by
    have e1 : fmy f e (0 + 1) = if (0 : Int) < f 0 then (0, f 0) else (e, 0) := rfl
    have e2 : fmx f 0 = 0 := rfl
    rw [e1, e2]
    exact ⟨fun h => if_pos h, fun h => if_neg (by omega)⟩
  | n + 1 => by
    obtain ⟨h1, h2⟩ := fmy_fmx (f := f) (e := e) n
    have e1 : ((n + 1 : Nat) : Int) = (n : Int) + 1 := rfl
    rw [fmy, fmx, e1]
    by_cases q : f (fmx f n) < f ((n : Int) + 1)
    · rw [if_pos q]
      refine ⟨fun h => ?_, fun h => ?_⟩
      · by_cases q2 : 0 < f (fmx f n)
        · rw [h1 q2, if_pos q]
        · rw [h2 (by omega), if_pos h]
      · rw [h2 (by omega), if_neg (by show ¬ (0 : Int) < _; omega)]
    · rw [if_neg q]
      refine ⟨fun h => ?_, fun h => ?_⟩
      · rw [h1 h, if_neg q]
      · rw [h2 h, if_neg (by show ¬ (0 : Int) < _; omega)]
theorem fmy_r {f : Int → Int} {e : Int} (he : 0 ≤ e ∧ e < 16) : ∀ n : Nat, n ≤ 16 → 0 ≤ (fmy f e n).1 ∧ (fmy f e n).1 < 16
  | 0, _ => he
  | n + 1, hn => by
    rw [fmy]
    split
    · exact ⟨by show (0 : Int) ≤ n; omega, by show (n : Int) < 16; omega⟩
    · exact fmy_r he n (by omega)
/-- the entry alone is no door away -/
def FPk (f : Int → Int) (e : Int) : Prop := f e = 0 ∧ ∀ r, 0 ≤ r → r < 16 → f r = 0 → r = e
theorem fmy_end {f : Int → Int} {e : Int} (he : 0 ≤ e ∧ e < 16) (h : FPk f e) : (fmy f e 16).1 = fmx f 15 := by
  obtain ⟨h1, h2⟩ := fmy_fmx (f := f) (e := e) 15
  by_cases q : 0 < f (fmx f 15)
  · rw [h1 q]
  · rw [h2 (by omega)]
    have m := fmx_mx (f := f) 15 e he.1 (by omega)
    have r := fmx_r (f := f) 15
    rw [h.1] at m
    exact (h.2 _ r.1 (by omega) (by omega)).symm
def spX3_farthestRoom : ac_Sp := sc_R (fun a h => FLk h a ∧ FPk (h 10 (h 405 a 0)) (h 400 a 0)) (fun a h v h' => h' = h ∧ v = some (.inl (fmx (h 10 (h 405 a 0)) 15))) (fun _ _ _ _ => False)
def ivX3_farthestRoom (a : Int) (h : ac_H) : Nat → Nat → ac_S := fun j m => match j with
  | 0 => fun L S g k n => m = 100 ∧ ent0 [some (.inr (.inl a)), none, none, none] h L S g k n
  | 1 => fun L S g k n => ∃ (i : Nat), i ≤ 16 ∧ m = 16 - i ∧ L = [some (.inr (.inl a)), some (.inl (fmy (h 10 (h 405 a 0)) (h 400 a 0) i).1), some (.inl (fmy (h 10 (h 405 a 0)) (h 400 a 0) i).2), some (.inl i)] ∧ S = [] ∧ g = h ∧ k = 0 ∧ n = 0
  | _ => fun _ _ _ _ _ => False
set_option maxRecDepth 100000 in
set_option maxHeartbeats 4000000 in
theorem mtX3_farthestRoom {G : ac_G} {l : Launch} : ac_Met G l yX3_farthestRoom mX3_farthestRoom 0 0 0 0 spX3_farthestRoom := by
  refine ac_meth (pcs := pcX3_farthestRoom) (B := fun P X J j => vcX3_farthestRoom P X J j) (by decide) rfl rfl rfl (fun P X J hJ j => sdX3_farthestRoom P X J hJ j) (hp_R (by decide)) fun As h hp => ?_
  obtain ⟨a, rfl, hp⟩ := sh_R_inv hp
  obtain ⟨hf, hq⟩ := hp
  obtain ⟨f2, f3, f4, f5, f6, f7, f8, f9, f10, -⟩ := id hf
  refine ⟨ivX3_farthestRoom a h, 100, ⟨rfl, rfl, rfl, rfl, rfl, rfl⟩, fun j m L S g k n hI => ?_⟩
  match j, hI with
  | 0, hI =>
    obtain ⟨hm, rfl, rfl, rfl, rfl, rfl⟩ := hI
    simp only [spX3_farthestRoom, vcX3_farthestRoom, mX3_farthestRoom, ac_ent, ldI, ldR, stI, stR, inc, cI, cJ, cN, bop, oAdd, oSub, oMul, oAnd, oOr, oXor, oShl, oShr, oUshr, oRem, oDiv, oMx, oMn, oI2l, oLcmp, oDup, oDup2, oDupX1, oPop, bIc, bI0, bNul, getI, getR, putI, putZ, putR, aLen, aldI, aldZ, aldJ, aldR, astI, astZ, astJ, astR, nwO, nwA, gsT, oObj, oCpy, oCln, oCst, rtI, rtZ, rtR, rtV, thr, call, callH, ac_hsel, ac_as, ac_rs, ac_cs, ac_rcv, List.map_cons, List.map_nil, List.length_cons, List.length_nil, List.replicate, List.append_nil, List.cons_append, List.nil_append, List.getElem?_cons_zero, List.getElem?_cons_succ, List.set, Nat.zero_add, Nat.add_zero, Nat.le_refl, Nat.reduceAdd, Nat.reduceSub, Nat.reduceLeDiff, Int.reduceLT, Int.reduceLE, Int.reduceNeg, Int.reduceEq, true_and, and_true, true_or, or_true, not_true_eq_false, not_false_eq_true, false_implies, true_implies, implies_true, reduceIte, and_self, Int.reduceAdd, Int.reduceMul, Int.reduceSub, eq_self, Int.add_zero, Int.zero_add, String.reduceEq, Nat.zero_le, Option.some.injEq, Sum.inl.injEq, Sum.inr.injEq, reduceCtorEq, Int.reduceToNat, Option.toList_some, Option.toList_none, ac_cs, ac_c10, ac_c11, ac_c12, ac_c13, ac_c14, ac_c15, ac_c16, ac_c17, sc_E, sh_E, sc_I, sh_I, sc_II, sh_II, sc_III, sh_III, sc_R, sh_R, sc_RI, sh_RI, sc_RII, sh_RII, sc_RIII, sh_RIII, sc_RIIII, sh_RIIII, sc_RR, sh_RR, sc_RRI, sh_RRI, sc_RRR, sh_RRR, sc_RIR, sh_RIR, sc_RIRI, sh_RIRI, sc_RRII, sh_RRII, sc_RRIII, sh_RRIII, sc_RIIRR, sh_RIIRR, sc_RIIIRR, sh_RIIIRR, sc_RIIR, sh_RIIR, sc_RRIIR, sh_RRIIR, sc_RRIIIR, sh_RRIIIR, sc_RRIIIIR, sh_RRIIIIR, sc_RRIR, sh_RRIR, f2]
    exact ⟨16, by omega, 0, by omega, by omega, rfl, rfl, rfl, rfl, rfl⟩
  | 1, hI =>
    obtain ⟨i, i1, hm, rfl, rfl, rfl, rfl, rfl⟩ := hI
    simp only [spX3_farthestRoom, vcX3_farthestRoom, mX3_farthestRoom, ac_ent, ldI, ldR, stI, stR, inc, cI, cJ, cN, bop, oAdd, oSub, oMul, oAnd, oOr, oXor, oShl, oShr, oUshr, oRem, oDiv, oMx, oMn, oI2l, oLcmp, oDup, oDup2, oDupX1, oPop, bIc, bI0, bNul, getI, getR, putI, putZ, putR, aLen, aldI, aldZ, aldJ, aldR, astI, astZ, astJ, astR, nwO, nwA, gsT, oObj, oCpy, oCln, oCst, rtI, rtZ, rtR, rtV, thr, call, callH, ac_hsel, ac_as, ac_rs, ac_cs, ac_rcv, List.map_cons, List.map_nil, List.length_cons, List.length_nil, List.replicate, List.append_nil, List.cons_append, List.nil_append, List.getElem?_cons_zero, List.getElem?_cons_succ, List.set, Nat.zero_add, Nat.add_zero, Nat.le_refl, Nat.reduceAdd, Nat.reduceSub, Nat.reduceLeDiff, Int.reduceLT, Int.reduceLE, Int.reduceNeg, Int.reduceEq, true_and, and_true, true_or, or_true, not_true_eq_false, not_false_eq_true, false_implies, true_implies, implies_true, reduceIte, and_self, Int.reduceAdd, Int.reduceMul, Int.reduceSub, eq_self, Int.add_zero, Int.zero_add, String.reduceEq, Nat.zero_le, Option.some.injEq, Sum.inl.injEq, Sum.inr.injEq, reduceCtorEq, Int.reduceToNat, Option.toList_some, Option.toList_none, ac_cs, ac_c10, ac_c11, ac_c12, ac_c13, ac_c14, ac_c15, ac_c16, ac_c17, sc_E, sh_E, sc_I, sh_I, sc_II, sh_II, sc_III, sh_III, sc_R, sh_R, sc_RI, sh_RI, sc_RII, sh_RII, sc_RIII, sh_RIII, sc_RIIII, sh_RIIII, sc_RR, sh_RR, sc_RRI, sh_RRI, sc_RRR, sh_RRR, sc_RIR, sh_RIR, sc_RIRI, sh_RIRI, sc_RRII, sh_RRII, sc_RRIII, sh_RRIII, sc_RIIRR, sh_RIIRR, sc_RIIIRR, sh_RIIIRR, sc_RIIR, sh_RIIR, sc_RRIIR, sh_RRIIR, sc_RRIIIR, sh_RRIIIR, sc_RRIIIIR, sh_RRIIIIR, sc_RRIR, sh_RRIR, f2, f9, f10]
    have e1 : ((i + 1 : Nat) : Int) = (i : Int) + 1 := rfl
    refine ⟨fun q => ?_, fun q => ⟨⟨by omega, by omega⟩, ?_⟩⟩
    · rw [show i = 16 by omega, fmy_end ⟨f3, f4⟩ hq]
    · simp (disch := omega) only [wr_of]
      refine ⟨fun e => ⟨15 - i, by omega, i + 1, by omega, by omega, ?_, rfl, rfl, rfl, rfl⟩, fun e => ⟨⟨by omega, by omega⟩, 15 - i, by omega, i + 1, by omega, by omega, ?_, rfl, rfl, rfl, rfl⟩⟩
      · rw [fmy, if_neg (by omega)]; rfl
      · rw [fmy, if_pos (by omega)]; rfl
  | j + 2, hI => exact hI.elim
