/-! ===== the player ===== -/
def rp (h : ac_H) (P : Int) (S : (Nat → Int) × (Int → Int)) : ac_H := fun k a j => if a = P ∧ j = 0 ∧ 701 ≤ k ∧ k ≤ 708 then S.1 k else if k = 10 ∧ a = h 700 P 0 then S.2 j else h k a j
def upq (q : Nat → Int) (k : Nat) (v : Int) : Nat → Int := fun k' => if k' = k then v else q k'
/-- what the heap has of the player -/
def rs (h : ac_H) (P : Int) : (Nat → Int) × (Int → Int) := (fun k => h k P 0, h 10 (h 700 P 0))
theorem rp_rs (h : ac_H) (P : Int) : rp h P (rs h P) = h := by
  funext k a j
  simp only [rp, rs]
  split
  · rename_i e; rw [e.1, e.2.1]
  · split
    · rename_i e; rw [e.1, e.2]
    · rfl
theorem rp_up {h : ac_H} {P : Int} {S : (Nat → Int) × (Int → Int)} {k : Nat} {v : Int} (h1 : 701 ≤ k) (h2 : k ≤ 708) : up (rp h P S) k P 0 v = rp h P (upq S.1 k v, S.2) := by
  funext k' a j
  simp only [rp, up, upq]
  by_cases e : k' = k
  · subst e
    by_cases e2 : a = P
    · by_cases e3 : j = 0
      · simp [e2, e3, h1, h2]
      · simp [e2, e3]
    · simp [e2]
  · simp [e]
theorem rp_ast {h : ac_H} {P : Int} {S : (Nat → Int) × (Int → Int)} {f : Int → Int} : ast (rp h P S) (h 700 P 0) f = rp h P (S.1, f) := by
  funext k' a j
  simp only [rp, ast]
  by_cases e : k' = 10
  · subst e
    by_cases e2 : a = h 700 P 0 <;> simp [e2]
  · simp [e]
theorem rp_k {h : ac_H} {P : Int} {S : (Nat → Int) × (Int → Int)} {k : Nat} {a j : Int} (h1 : k < 701 ∨ 708 < k) (h2 : k ≠ 10) : rp h P S k a j = h k a j := by
  simp only [rp]
  rw [if_neg (by omega), if_neg (fun e => h2 e.1)]
theorem rp_q {h : ac_H} {P : Int} {S : (Nat → Int) × (Int → Int)} {k : Nat} (h1 : 701 ≤ k) (h2 : k ≤ 708) : rp h P S k P 0 = S.1 k := by
  simp only [rp]
  rw [if_pos ⟨trivial, trivial, h1, h2⟩]
theorem rp_M {h : ac_H} {P : Int} {S : (Nat → Int) × (Int → Int)} : rp h P S 10 (h 700 P 0) = S.2 := by
  funext j
  simp only [rp]
  rw [if_neg (by omega), if_pos ⟨trivial, trivial⟩]
theorem rp_o {h : ac_H} {P a : Int} {S : (Nat → Int) × (Int → Int)} (e : a ≠ h 700 P 0) : rp h P S 10 a = h 10 a := by
  funext j
  simp only [rp]
  rw [if_neg (by omega), if_neg (fun q => e q.2)]
theorem rp_rp {h : ac_H} {P : Int} {S T : (Nat → Int) × (Int → Int)} : rp (rp h P S) P T = rp h P T := by
  funext k a j
  have e : rp h P S 700 P 0 = h 700 P 0 := rp_k (by omega) (by omega)
  generalize hG : rp h P S = G at e ⊢
  simp only [rp, e]
  subst hG
  simp only [rp]
  split
  · rfl
  · split
    · rfl
    · rfl
def RPk (h : ac_H) (P : Int) : Prop := h 0 P 0 = 26 ∧ h 0 (h 700 P 0) 0 = 10 ∧ h 1 (h 700 P 0) 0 = 16
def fgS (S : (Nat → Int) × (Int → Int)) : (Nat → Int) × (Int → Int) :=
  let q := upq (upq S.1 705 (wr (S.1 705 - S.2 (S.1 704)))) 706 (wr (S.1 706 + S.2 (S.1 704)))
  (if 0 < q 705 then q else upq q 707 1, fu S.2 (S.1 704) 0)
def ttS (S : (Nat → Int) × (Int → Int)) : (Nat → Int) × (Int → Int) :=
  if bt (S.1 701) (S.1 704) = 0 then S else (upq (upq S.1 701 (iand (S.1 701) (ixor (ishl 1 (S.1 704)) (-1)))) 706 (wr (S.1 706 + 5)), S.2)
/-- a fight with strength x -/
def ffS (x : Int) (S : (Nat → Int) × (Int → Int)) : (Nat → Int) × (Int → Int) :=
  let q := upq (upq S.1 705 (wr (S.1 705 - x))) 706 (wr (S.1 706 + x))
  (if 0 < q 705 then q else upq q 707 1, S.2)
def spX6_fight : ac_Sp := sc_RI (fun P x h => RPk h P) (fun P x h v h' => v = none ∧ h' = rp h P (ffS x (rs h P))) (fun _ _ _ _ _ => False)
set_option maxRecDepth 100000 in
set_option maxHeartbeats 4000000 in
theorem mtX6_fight {G : ac_G} {l : Launch} : ac_Met G l yX6_fight mX6_fight 0 0 0 0 spX6_fight := by
  refine ac_meth1 (pcs := pcX6_fight) (B := fun P X J j => vcX6_fight P X J j) (by decide) rfl rfl rfl (fun P X J hJ j => sdX6_fight P X J hJ j) (hp_RI (by decide)) fun As h hp => ?_
  obtain ⟨P, x, rfl, hp⟩ := sh_RI_inv hp
  simp only [spX6_fight, vcX6_fight, mX6_fight, sc_RI, sh_RI, ac_ent, ldI, ldR, stI, stR, inc, cI, cJ, cN, bop, oAdd, oSub, oMul, oAnd, oOr, oXor, oShl, oShr, oUshr, oRem, oDiv, oMx, oMn, oI2l, oLcmp, oDup, oDup2, oDupX1, oPop, bIc, bI0, bNul, getI, getR, putI, putZ, putR, aLen, aldI, aldZ, aldJ, aldR, astI, astZ, astJ, astR, nwO, nwA, gsT, oObj, oCpy, oCln, oCst, rtI, rtZ, rtR, rtV, thr, call, callH, ac_hsel, ac_as, ac_rs, ac_cs, ac_rcv, List.map_cons, List.map_nil, List.length_cons, List.length_nil, List.replicate, List.append_nil, List.cons_append, List.nil_append, List.getElem?_cons_zero, List.getElem?_cons_succ, List.set, Nat.zero_add, Nat.add_zero, Nat.le_refl, Nat.reduceAdd, Nat.reduceSub, Nat.reduceLeDiff, Int.reduceLT, Int.reduceLE, Int.reduceNeg, Int.reduceEq, true_and, and_true, true_or, or_true, not_true_eq_false, not_false_eq_true, false_implies, true_implies, implies_true, reduceIte, and_self, Int.reduceAdd, Int.reduceMul, Int.reduceSub, eq_self, Int.add_zero, Int.zero_add, String.reduceEq, Nat.zero_le, Option.some.injEq, Sum.inl.injEq, Sum.inr.injEq, reduceCtorEq, Int.reduceToNat, Option.toList_some, Option.toList_none, ac_cs, ac_c10, ac_c11, ac_c12, ac_c13, ac_c14, ac_c15, ac_c16, ac_c17, sc_E, sh_E, sc_I, sh_I, sc_II, sh_II, sc_III, sh_III, sc_R, sh_R, sc_RI, sh_RI, sc_RII, sh_RII, sc_RIII, sh_RIII, sc_RIIII, sh_RIIII, sc_RR, sh_RR, sc_RRI, sh_RRI, sc_RRR, sh_RRR, sc_RIR, sh_RIR, sc_RIRI, sh_RIRI, sc_RRII, sh_RRII, sc_RRIII, sh_RRIII, sc_RIIRR, sh_RIIRR, sc_RIIIRR, sh_RIIIRR, sc_RIIR, sh_RIIR, sc_RRIIR, sh_RRIIR, sc_RRIIIR, sh_RRIIIR, sc_RRIIIIR, sh_RRIIIIR, sc_RRIR, sh_RRIR]
  obtain ⟨h1, h2, h3⟩ := hp
  have hh := rp_rs h P
  generalize rs h P = S at hh ⊢
  rw [← hh] at h1 h2 h3 ⊢
  simp only [rp_up, rp_ast, rp_q, rp_k, rp_M, rp_rp, Nat.reduceLeDiff, Nat.reduceLT, Nat.reduceEqDiff, or_true, true_or, or_false, false_or, ne_eq, not_false_eq_true] at h1 h2 h3
  simp only [h1, h2, h3, rp_up, rp_ast, rp_q, rp_k, rp_M, rp_rp, Nat.reduceLeDiff, Nat.reduceLT, Nat.reduceEqDiff, or_true, true_or, or_false, false_or, ne_eq, not_false_eq_true, up_k, ast_k, up_kf, ast_kf, ne_eq, Nat.reduceEqDiff, not_false_eq_true, ac_ent, ldI, ldR, stI, stR, inc, cI, cJ, cN, bop, oAdd, oSub, oMul, oAnd, oOr, oXor, oShl, oShr, oUshr, oRem, oDiv, oMx, oMn, oI2l, oLcmp, oDup, oDup2, oDupX1, oPop, bIc, bI0, bNul, getI, getR, putI, putZ, putR, aLen, aldI, aldZ, aldJ, aldR, astI, astZ, astJ, astR, nwO, nwA, gsT, oObj, oCpy, oCln, oCst, rtI, rtZ, rtR, rtV, thr, call, callH, ac_hsel, ac_as, ac_rs, ac_cs, ac_rcv, List.map_cons, List.map_nil, List.length_cons, List.length_nil, List.replicate, List.append_nil, List.cons_append, List.nil_append, List.getElem?_cons_zero, List.getElem?_cons_succ, List.set, Nat.zero_add, Nat.add_zero, Nat.le_refl, Nat.reduceAdd, Nat.reduceSub, Nat.reduceLeDiff, Int.reduceLT, Int.reduceLE, Int.reduceNeg, Int.reduceEq, true_and, and_true, true_or, or_true, not_true_eq_false, not_false_eq_true, false_implies, true_implies, implies_true, reduceIte, and_self, Int.reduceAdd, Int.reduceMul, Int.reduceSub, eq_self, Int.add_zero, Int.zero_add, String.reduceEq, Nat.zero_le, Option.some.injEq, Sum.inl.injEq, Sum.inr.injEq, reduceCtorEq, Int.reduceToNat, Option.toList_some, Option.toList_none, ac_cs, ac_c10, ac_c11, ac_c12, ac_c13, ac_c14, ac_c15, ac_c16, ac_c17, sc_E, sh_E, sc_I, sh_I, sc_II, sh_II, sc_III, sh_III, sc_R, sh_R, sc_RI, sh_RI, sc_RII, sh_RII, sc_RIII, sh_RIII, sc_RIIII, sh_RIIII, sc_RR, sh_RR, sc_RRI, sh_RRI, sc_RRR, sh_RRR, sc_RIR, sh_RIR, sc_RIRI, sh_RIRI, sc_RRII, sh_RRII, sc_RRIII, sh_RRIII, sc_RIIRR, sh_RIIRR, sc_RIIIRR, sh_RIIIRR, sc_RIIR, sh_RIIR, sc_RRIIR, sh_RRIIR, sc_RRIIIR, sh_RRIIIR, sc_RRIIIIR, sh_RRIIIIR, sc_RRIR, sh_RRIR]
  refine ⟨fun e => ?_, fun e => ?_⟩
  · have e2 : 0 < upq (upq S.1 705 (wr (S.1 705 - x))) 706 (wr (S.1 706 + x)) 705 := e
    rw [ffS, if_pos e2]
  · have e2 : ¬ 0 < upq (upq S.1 705 (wr (S.1 705 - x))) 706 (wr (S.1 706 + x)) 705 := e
    rw [ffS, if_neg e2]
def spX6_takeTreasure : ac_Sp := sc_R (fun P h => RPk h P) (fun P h v h' => v = none ∧ h' = rp h P (ttS (rs h P))) (fun _ _ _ _ => False)
set_option maxRecDepth 100000 in
set_option maxHeartbeats 4000000 in
theorem mtX6_takeTreasure {G : ac_G} {l : Launch} : ac_Met G l yX6_takeTreasure mX6_takeTreasure 1 21 0 0 spX6_takeTreasure := by
  refine ac_meth1 (pcs := pcX6_takeTreasure) (B := fun P X J j => vcX6_takeTreasure spX8_holds P X J j) (by decide) rfl rfl rfl (fun P X J hJ j => sdX6_takeTreasure mtX8_holds P X J hJ j) (hp_R (by decide)) fun As h hp => ?_
  obtain ⟨P, rfl, hp⟩ := sh_R_inv hp
  simp only [spX6_takeTreasure, vcX6_takeTreasure, mX6_takeTreasure, spX8_holds, sc_R, sh_R, ac_ent, ldI, ldR, stI, stR, inc, cI, cJ, cN, bop, oAdd, oSub, oMul, oAnd, oOr, oXor, oShl, oShr, oUshr, oRem, oDiv, oMx, oMn, oI2l, oLcmp, oDup, oDup2, oDupX1, oPop, bIc, bI0, bNul, getI, getR, putI, putZ, putR, aLen, aldI, aldZ, aldJ, aldR, astI, astZ, astJ, astR, nwO, nwA, gsT, oObj, oCpy, oCln, oCst, rtI, rtZ, rtR, rtV, thr, call, callH, ac_hsel, ac_as, ac_rs, ac_cs, ac_rcv, List.map_cons, List.map_nil, List.length_cons, List.length_nil, List.replicate, List.append_nil, List.cons_append, List.nil_append, List.getElem?_cons_zero, List.getElem?_cons_succ, List.set, Nat.zero_add, Nat.add_zero, Nat.le_refl, Nat.reduceAdd, Nat.reduceSub, Nat.reduceLeDiff, Int.reduceLT, Int.reduceLE, Int.reduceNeg, Int.reduceEq, true_and, and_true, true_or, or_true, not_true_eq_false, not_false_eq_true, false_implies, true_implies, implies_true, reduceIte, and_self, Int.reduceAdd, Int.reduceMul, Int.reduceSub, eq_self, Int.add_zero, Int.zero_add, String.reduceEq, Nat.zero_le, Option.some.injEq, Sum.inl.injEq, Sum.inr.injEq, reduceCtorEq, Int.reduceToNat, Option.toList_some, Option.toList_none, ac_cs, ac_c10, ac_c11, ac_c12, ac_c13, ac_c14, ac_c15, ac_c16, ac_c17, sc_E, sh_E, sc_I, sh_I, sc_II, sh_II, sc_III, sh_III, sc_R, sh_R, sc_RI, sh_RI, sc_RII, sh_RII, sc_RIII, sh_RIII, sc_RIIII, sh_RIIII, sc_RR, sh_RR, sc_RRI, sh_RRI, sc_RRR, sh_RRR, sc_RIR, sh_RIR, sc_RIRI, sh_RIRI, sc_RRII, sh_RRII, sc_RRIII, sh_RRIII, sc_RIIRR, sh_RIIRR, sc_RIIIRR, sh_RIIIRR, sc_RIIR, sh_RIIR, sc_RRIIR, sh_RRIIR, sc_RRIIIR, sh_RRIIIR, sc_RRIIIIR, sh_RRIIIIR, sc_RRIR, sh_RRIR]
  obtain ⟨h1, h2, h3⟩ := hp
  have hh := rp_rs h P
  generalize rs h P = S at hh ⊢
  rw [← hh] at h1 h2 h3 ⊢
  simp only [rp_up, rp_ast, rp_q, rp_k, rp_M, rp_rp, Nat.reduceLeDiff, Nat.reduceLT, Nat.reduceEqDiff, or_true, true_or, or_false, false_or, ne_eq, not_false_eq_true] at h1 h2 h3
  simp only [h1, h2, h3, up10, rp_up, rp_ast, rp_q, rp_k, rp_M, rp_rp, Nat.reduceLeDiff, Nat.reduceLT, Nat.reduceEqDiff, or_true, true_or, or_false, false_or, ne_eq, not_false_eq_true, up_k, ast_k, up_kf, ast_kf, ne_eq, Nat.reduceEqDiff, not_false_eq_true, ac_ent, ldI, ldR, stI, stR, inc, cI, cJ, cN, bop, oAdd, oSub, oMul, oAnd, oOr, oXor, oShl, oShr, oUshr, oRem, oDiv, oMx, oMn, oI2l, oLcmp, oDup, oDup2, oDupX1, oPop, bIc, bI0, bNul, getI, getR, putI, putZ, putR, aLen, aldI, aldZ, aldJ, aldR, astI, astZ, astJ, astR, nwO, nwA, gsT, oObj, oCpy, oCln, oCst, rtI, rtZ, rtR, rtV, thr, call, callH, ac_hsel, ac_as, ac_rs, ac_cs, ac_rcv, List.map_cons, List.map_nil, List.length_cons, List.length_nil, List.replicate, List.append_nil, List.cons_append, List.nil_append, List.getElem?_cons_zero, List.getElem?_cons_succ, List.set, Nat.zero_add, Nat.add_zero, Nat.le_refl, Nat.reduceAdd, Nat.reduceSub, Nat.reduceLeDiff, Int.reduceLT, Int.reduceLE, Int.reduceNeg, Int.reduceEq, true_and, and_true, true_or, or_true, not_true_eq_false, not_false_eq_true, false_implies, true_implies, implies_true, reduceIte, and_self, Int.reduceAdd, Int.reduceMul, Int.reduceSub, eq_self, Int.add_zero, Int.zero_add, String.reduceEq, Nat.zero_le, Option.some.injEq, Sum.inl.injEq, Sum.inr.injEq, reduceCtorEq, Int.reduceToNat, Option.toList_some, Option.toList_none, ac_cs, ac_c10, ac_c11, ac_c12, ac_c13, ac_c14, ac_c15, ac_c16, ac_c17, sc_E, sh_E, sc_I, sh_I, sc_II, sh_II, sc_III, sh_III, sc_R, sh_R, sc_RI, sh_RI, sc_RII, sh_RII, sc_RIII, sh_RIII, sc_RIIII, sh_RIIII, sc_RR, sh_RR, sc_RRI, sh_RRI, sc_RRR, sh_RRR, sc_RIR, sh_RIR, sc_RIRI, sh_RIRI, sc_RRII, sh_RRII, sc_RRIII, sh_RRIII, sc_RIIRR, sh_RIIRR, sc_RIIIRR, sh_RIIIRR, sc_RIIR, sh_RIIR, sc_RRIIR, sh_RRIIR, sc_RRIIIR, sh_RRIIIR, sc_RRIIIIR, sh_RRIIIIR, sc_RRIR, sh_RRIR]
  rintro v h' ⟨rfl, rfl⟩
  simp only [h1, h2, h3, up10, rp_up, rp_ast, rp_q, rp_k, rp_M, rp_rp, Nat.reduceLeDiff, Nat.reduceLT, Nat.reduceEqDiff, or_true, true_or, or_false, false_or, ne_eq, not_false_eq_true, up_k, ast_k, up_kf, ast_kf, ne_eq, Nat.reduceEqDiff, not_false_eq_true, ac_ent, ldI, ldR, stI, stR, inc, cI, cJ, cN, bop, oAdd, oSub, oMul, oAnd, oOr, oXor, oShl, oShr, oUshr, oRem, oDiv, oMx, oMn, oI2l, oLcmp, oDup, oDup2, oDupX1, oPop, bIc, bI0, bNul, getI, getR, putI, putZ, putR, aLen, aldI, aldZ, aldJ, aldR, astI, astZ, astJ, astR, nwO, nwA, gsT, oObj, oCpy, oCln, oCst, rtI, rtZ, rtR, rtV, thr, call, callH, ac_hsel, ac_as, ac_rs, ac_cs, ac_rcv, List.map_cons, List.map_nil, List.length_cons, List.length_nil, List.replicate, List.append_nil, List.cons_append, List.nil_append, List.getElem?_cons_zero, List.getElem?_cons_succ, List.set, Nat.zero_add, Nat.add_zero, Nat.le_refl, Nat.reduceAdd, Nat.reduceSub, Nat.reduceLeDiff, Int.reduceLT, Int.reduceLE, Int.reduceNeg, Int.reduceEq, true_and, and_true, true_or, or_true, not_true_eq_false, not_false_eq_true, false_implies, true_implies, implies_true, reduceIte, and_self, Int.reduceAdd, Int.reduceMul, Int.reduceSub, eq_self, Int.add_zero, Int.zero_add, String.reduceEq, Nat.zero_le, Option.some.injEq, Sum.inl.injEq, Sum.inr.injEq, reduceCtorEq, Int.reduceToNat, Option.toList_some, Option.toList_none, ac_cs, ac_c10, ac_c11, ac_c12, ac_c13, ac_c14, ac_c15, ac_c16, ac_c17, sc_E, sh_E, sc_I, sh_I, sc_II, sh_II, sc_III, sh_III, sc_R, sh_R, sc_RI, sh_RI, sc_RII, sh_RII, sc_RIII, sh_RIII, sc_RIIII, sh_RIIII, sc_RR, sh_RR, sc_RRI, sh_RRI, sc_RRR, sh_RRR, sc_RIR, sh_RIR, sc_RIRI, sh_RIRI, sc_RRII, sh_RRII, sc_RRIII, sh_RRIII, sc_RIIRR, sh_RIIRR, sc_RIIIRR, sh_RIIIRR, sc_RIIR, sh_RIIR, sc_RRIIR, sh_RRIIR, sc_RRIIIR, sh_RRIIIR, sc_RRIIIIR, sh_RRIIIIR, sc_RRIR, sh_RRIR]
  refine ⟨fun e => ?_, fun e => ?_⟩
  · have e2 : bt (S.1 701) (S.1 704) = 0 := by
      by_cases q : bt (S.1 701) (S.1 704) = 0
      · exact q
      · rw [if_neg q] at e; exact absurd e (by decide)
    rw [ttS, if_pos e2]
  · have e2 : ¬ bt (S.1 701) (S.1 704) = 0 := fun q => e (if_pos q)
    rw [ttS, if_neg e2]
/-- floor f of dungeon d: the facts that stand through a game -/
def GMk (h : ac_H) (P d : Int) : Prop := RPk h P ∧ RUk h d ∧ h 302 d 0 ≠ h 700 P 0 ∧ h 0 (h 303 d 0) 0 = 15 ∧ h 1 (h 303 d 0) 0 = 3 ∧ ∀ f : Int, 0 ≤ f → f < 3 → 0 < flr h d f ∧ FLk h (flr h d f) ∧ h 402 (flr h d f) 0 ≠ h 700 P 0 ∧ h 403 (flr h d f) 0 ≠ h 700 P 0 ∧ 0 ≤ h 401 (flr h d f) 0 ∧ h 401 (flr h d f) 0 < 16
/-- on floor f, at its entry -/
def enS (h : ac_H) (d f : Int) (S : (Nat → Int) × (Int → Int)) : (Nat → Int) × (Int → Int) :=
  (upq (upq (upq (upq S.1 703 f) 702 (flr h d f)) 704 (h 400 (flr h d f) 0)) 701 (h 404 (flr h d f) 0), fun r => if 0 ≤ r ∧ r < 16 then h 10 (h 403 (flr h d f) 0) r else S.2 r)
def spX6_enter : ac_Sp := sc_RRI (fun P d f h => GMk h P d ∧ 0 ≤ f ∧ f < 3) (fun P d f h v h' => v = none ∧ h' = rp h P (enS h d f (rs h P))) (fun _ _ _ _ _ _ => False)
set_option maxRecDepth 100000 in
set_option maxHeartbeats 4000000 in
theorem mtX6_enter {G : ac_G} {l : Launch} : ac_Met G l yX6_enter mX6_enter 1 30 0 0 spX6_enter := by
  refine ac_meth1 (pcs := pcX6_enter) (B := fun P X J j => vcX6_enter spX2_floorAt P X J j) (by decide) rfl rfl rfl (fun P X J hJ j => sdX6_enter mtX2_floorAt P X J hJ j) (hp_RRI (by decide)) fun As h hp => ?_
  obtain ⟨P, d, f, rfl, hp⟩ := sh_RRI_inv hp
  simp only [spX6_enter, vcX6_enter, mX6_enter, spX2_floorAt, sc_RRI, sh_RRI, ac_ent, ldI, ldR, stI, stR, inc, cI, cJ, cN, bop, oAdd, oSub, oMul, oAnd, oOr, oXor, oShl, oShr, oUshr, oRem, oDiv, oMx, oMn, oI2l, oLcmp, oDup, oDup2, oDupX1, oPop, bIc, bI0, bNul, getI, getR, putI, putZ, putR, aLen, aldI, aldZ, aldJ, aldR, astI, astZ, astJ, astR, nwO, nwA, gsT, oObj, oCpy, oCln, oCst, rtI, rtZ, rtR, rtV, thr, call, callH, ac_hsel, ac_as, ac_rs, ac_cs, ac_rcv, List.map_cons, List.map_nil, List.length_cons, List.length_nil, List.replicate, List.append_nil, List.cons_append, List.nil_append, List.getElem?_cons_zero, List.getElem?_cons_succ, List.set, Nat.zero_add, Nat.add_zero, Nat.le_refl, Nat.reduceAdd, Nat.reduceSub, Nat.reduceLeDiff, Int.reduceLT, Int.reduceLE, Int.reduceNeg, Int.reduceEq, true_and, and_true, true_or, or_true, not_true_eq_false, not_false_eq_true, false_implies, true_implies, implies_true, reduceIte, and_self, Int.reduceAdd, Int.reduceMul, Int.reduceSub, eq_self, Int.add_zero, Int.zero_add, String.reduceEq, Nat.zero_le, Option.some.injEq, Sum.inl.injEq, Sum.inr.injEq, reduceCtorEq, Int.reduceToNat, Option.toList_some, Option.toList_none, ac_cs, ac_c10, ac_c11, ac_c12, ac_c13, ac_c14, ac_c15, ac_c16, ac_c17, sc_E, sh_E, sc_I, sh_I, sc_II, sh_II, sc_III, sh_III, sc_R, sh_R, sc_RI, sh_RI, sc_RII, sh_RII, sc_RIII, sh_RIII, sc_RIIII, sh_RIIII, sc_RR, sh_RR, sc_RRI, sh_RRI, sc_RRR, sh_RRR, sc_RIR, sh_RIR, sc_RIRI, sh_RIRI, sc_RRII, sh_RRII, sc_RRIII, sh_RRIII, sc_RIIRR, sh_RIIRR, sc_RIIIRR, sh_RIIIRR, sc_RIIR, sh_RIIR, sc_RRIIR, sh_RRIIR, sc_RRIIIR, sh_RRIIIR, sc_RRIIIIR, sh_RRIIIIR, sc_RRIR, sh_RRIR]
  obtain ⟨⟨⟨h1, h2, h3⟩, hr, hne, h4, h5, h6⟩, f0, f1⟩ := hp
  obtain ⟨l0, l1, l2, l3, l4, l5⟩ := h6 f f0 f1
  have hh := rp_rs h P
  generalize rs h P = S at hh ⊢
  rw [← hh] at h1 h2 h3 hne h4 h5 l0 l1 l2 l3 l4 l5 ⊢
  have el : flr (rp h P S) d f = flr h d f := by simp only [flr, rp_up, rp_ast, rp_q, rp_k, rp_M, rp_rp, Nat.reduceLeDiff, Nat.reduceLT, Nat.reduceEqDiff, or_true, true_or, or_false, false_or, ne_eq, not_false_eq_true]
  rw [el] at l0 l1 l2 l3 l4 l5
  obtain ⟨k1, k2, k3, k4, k5, k6, k7, -⟩ := id l1
  simp only [rp_up, rp_ast, rp_q, rp_k, rp_M, rp_rp, Nat.reduceLeDiff, Nat.reduceLT, Nat.reduceEqDiff, or_true, true_or, or_false, false_or, ne_eq, not_false_eq_true] at h1 h2 h3 hne h4 h5 l2 l3 l4 l5 k1 k2 k3 k4 k5 k6 k7
  have h6 : h 0 d 0 = 22 := by have := hr.1; rw [← hh] at this; simp only [rp_up, rp_ast, rp_q, rp_k, rp_M, rp_rp, Nat.reduceLeDiff, Nat.reduceLT, Nat.reduceEqDiff, or_true, true_or, or_false, false_or, ne_eq, not_false_eq_true] at this; exact this
  have l6 : h 15 (h 303 d 0) f ≠ 0 := by unfold flr at l0; omega
  have l7 : h 0 (h 15 (h 303 d 0) f) 0 = 23 := k1
  have l8 : h 0 (h 403 (h 15 (h 303 d 0) f) 0) 0 = 10 := k6
  have l9 : h 1 (h 403 (h 15 (h 303 d 0) f) 0) 0 = 16 := k7
  simp only [h1, h2, h3, h4, h5, h6, rp_up, rp_ast, rp_q, rp_k, rp_M, rp_rp, Nat.reduceLeDiff, Nat.reduceLT, Nat.reduceEqDiff, or_true, true_or, or_false, false_or, ne_eq, not_false_eq_true, up_k, ast_k, up_kf, ast_kf, ne_eq, Nat.reduceEqDiff, not_false_eq_true, ac_ent, ldI, ldR, stI, stR, inc, cI, cJ, cN, bop, oAdd, oSub, oMul, oAnd, oOr, oXor, oShl, oShr, oUshr, oRem, oDiv, oMx, oMn, oI2l, oLcmp, oDup, oDup2, oDupX1, oPop, bIc, bI0, bNul, getI, getR, putI, putZ, putR, aLen, aldI, aldZ, aldJ, aldR, astI, astZ, astJ, astR, nwO, nwA, gsT, oObj, oCpy, oCln, oCst, rtI, rtZ, rtR, rtV, thr, call, callH, ac_hsel, ac_as, ac_rs, ac_cs, ac_rcv, List.map_cons, List.map_nil, List.length_cons, List.length_nil, List.replicate, List.append_nil, List.cons_append, List.nil_append, List.getElem?_cons_zero, List.getElem?_cons_succ, List.set, Nat.zero_add, Nat.add_zero, Nat.le_refl, Nat.reduceAdd, Nat.reduceSub, Nat.reduceLeDiff, Int.reduceLT, Int.reduceLE, Int.reduceNeg, Int.reduceEq, true_and, and_true, true_or, or_true, not_true_eq_false, not_false_eq_true, false_implies, true_implies, implies_true, reduceIte, and_self, Int.reduceAdd, Int.reduceMul, Int.reduceSub, eq_self, Int.add_zero, Int.zero_add, String.reduceEq, Nat.zero_le, Option.some.injEq, Sum.inl.injEq, Sum.inr.injEq, reduceCtorEq, Int.reduceToNat, Option.toList_some, Option.toList_none, ac_cs, ac_c10, ac_c11, ac_c12, ac_c13, ac_c14, ac_c15, ac_c16, ac_c17, sc_E, sh_E, sc_I, sh_I, sc_II, sh_II, sc_III, sh_III, sc_R, sh_R, sc_RI, sh_RI, sc_RII, sh_RII, sc_RIII, sh_RIII, sc_RIIII, sh_RIIII, sc_RR, sh_RR, sc_RRI, sh_RRI, sc_RRR, sh_RRR, sc_RIR, sh_RIR, sc_RIRI, sh_RIRI, sc_RRII, sh_RRII, sc_RRIII, sh_RRIII, sc_RIIRR, sh_RIIRR, sc_RIIIRR, sh_RIIIRR, sc_RIIR, sh_RIIR, sc_RRIIR, sh_RRIIR, sc_RRIIIR, sh_RRIIIR, sc_RRIIIIR, sh_RRIIIIR, sc_RRIR, sh_RRIR]
  rintro v h' ⟨rfl, rfl⟩
  simp only [h1, h2, h3, h4, h5, h6, f0, f1, l6, l7, l8, l9, upq, rp_up, rp_ast, rp_q, rp_k, rp_M, rp_rp, Nat.reduceLeDiff, Nat.reduceLT, Nat.reduceEqDiff, or_true, true_or, or_false, false_or, ne_eq, not_false_eq_true, up_k, ast_k, up_kf, ast_kf, ne_eq, Nat.reduceEqDiff, not_false_eq_true, ac_ent, ldI, ldR, stI, stR, inc, cI, cJ, cN, bop, oAdd, oSub, oMul, oAnd, oOr, oXor, oShl, oShr, oUshr, oRem, oDiv, oMx, oMn, oI2l, oLcmp, oDup, oDup2, oDupX1, oPop, bIc, bI0, bNul, getI, getR, putI, putZ, putR, aLen, aldI, aldZ, aldJ, aldR, astI, astZ, astJ, astR, nwO, nwA, gsT, oObj, oCpy, oCln, oCst, rtI, rtZ, rtR, rtV, thr, call, callH, ac_hsel, ac_as, ac_rs, ac_cs, ac_rcv, List.map_cons, List.map_nil, List.length_cons, List.length_nil, List.replicate, List.append_nil, List.cons_append, List.nil_append, List.getElem?_cons_zero, List.getElem?_cons_succ, List.set, Nat.zero_add, Nat.add_zero, Nat.le_refl, Nat.reduceAdd, Nat.reduceSub, Nat.reduceLeDiff, Int.reduceLT, Int.reduceLE, Int.reduceNeg, Int.reduceEq, true_and, and_true, true_or, or_true, not_true_eq_false, not_false_eq_true, false_implies, true_implies, implies_true, reduceIte, and_self, Int.reduceAdd, Int.reduceMul, Int.reduceSub, eq_self, Int.add_zero, Int.zero_add, String.reduceEq, Nat.zero_le, Option.some.injEq, Sum.inl.injEq, Sum.inr.injEq, reduceCtorEq, Int.reduceToNat, Option.toList_some, Option.toList_none, ac_cs, ac_c10, ac_c11, ac_c12, ac_c13, ac_c14, ac_c15, ac_c16, ac_c17, sc_E, sh_E, sc_I, sh_I, sc_II, sh_II, sc_III, sh_III, sc_R, sh_R, sc_RI, sh_RI, sc_RII, sh_RII, sc_RIII, sh_RIII, sc_RIIII, sh_RIIII, sc_RR, sh_RR, sc_RRI, sh_RRI, sc_RRR, sh_RRR, sc_RIR, sh_RIR, sc_RIRI, sh_RIRI, sc_RRII, sh_RRII, sc_RRIII, sh_RRIII, sc_RIIRR, sh_RIIRR, sc_RIIIRR, sh_RIIIRR, sc_RIIR, sh_RIIR, sc_RRIIR, sh_RRIIR, sc_RRIIIR, sh_RRIIIR, sc_RRIIIIR, sh_RRIIIIR, sc_RRIR, sh_RRIR]
  have l10 : h 403 (h 15 (h 303 d 0) f) 0 ≠ h 700 P 0 := l3
  have ec : ∀ (T : (Nat → Int) × (Int → Int)), ac_cpy (rp h P T) (h 403 (h 15 (h 303 d 0) f) 0) 0 (h 700 P 0) 0 16 = rp h P (T.1, fun r => if 0 ≤ r ∧ r < 16 then h 10 (h 403 (h 15 (h 303 d 0) f) 0) r else T.2 r) := by
    intro T
    rw [← rp_ast (S := T) (f := fun r => if 0 ≤ r ∧ r < 16 then h 10 (h 403 (h 15 (h 303 d 0) f) 0) r else T.2 r)]
    funext k a j
    have m1 := rp_M (h := h) (P := P) (S := T)
    have m2 := rp_o (S := T) l10
    generalize rp h P T = g at m1 m2 ⊢
    simp only [ac_cpy, ast]
    by_cases q1 : k = 10
    · subst q1
      by_cases q2 : a = h 700 P 0
      · subst q2
        simp only [m1, m2, Int.zero_add, Int.sub_zero, true_and, and_self, if_true]
      · simp [q2]
    · simp [q1]
  simp only [ec, rp_up, rp_ast, rp_q, rp_k, rp_M, rp_rp, Nat.reduceLeDiff, Nat.reduceLT, Nat.reduceEqDiff, or_true, true_or, or_false, false_or, ne_eq, not_false_eq_true, ac_ent, ldI, ldR, stI, stR, inc, cI, cJ, cN, bop, oAdd, oSub, oMul, oAnd, oOr, oXor, oShl, oShr, oUshr, oRem, oDiv, oMx, oMn, oI2l, oLcmp, oDup, oDup2, oDupX1, oPop, bIc, bI0, bNul, getI, getR, putI, putZ, putR, aLen, aldI, aldZ, aldJ, aldR, astI, astZ, astJ, astR, nwO, nwA, gsT, oObj, oCpy, oCln, oCst, rtI, rtZ, rtR, rtV, thr, call, callH, ac_hsel, ac_as, ac_rs, ac_cs, ac_rcv, List.map_cons, List.map_nil, List.length_cons, List.length_nil, List.replicate, List.append_nil, List.cons_append, List.nil_append, List.getElem?_cons_zero, List.getElem?_cons_succ, List.set, Nat.zero_add, Nat.add_zero, Nat.le_refl, Nat.reduceAdd, Nat.reduceSub, Nat.reduceLeDiff, Int.reduceLT, Int.reduceLE, Int.reduceNeg, Int.reduceEq, true_and, and_true, true_or, or_true, not_true_eq_false, not_false_eq_true, false_implies, true_implies, implies_true, reduceIte, and_self, Int.reduceAdd, Int.reduceMul, Int.reduceSub, eq_self, Int.add_zero, Int.zero_add, String.reduceEq, Nat.zero_le, Option.some.injEq, Sum.inl.injEq, Sum.inr.injEq, reduceCtorEq, Int.reduceToNat, Option.toList_some, Option.toList_none, ac_cs, ac_c10, ac_c11, ac_c12, ac_c13, ac_c14, ac_c15, ac_c16, ac_c17, sc_E, sh_E, sc_I, sh_I, sc_II, sh_II, sc_III, sh_III, sc_R, sh_R, sc_RI, sh_RI, sc_RII, sh_RII, sc_RIII, sh_RIII, sc_RIIII, sh_RIIII, sc_RR, sh_RR, sc_RRI, sh_RRI, sc_RRR, sh_RRR, sc_RIR, sh_RIR, sc_RIRI, sh_RIRI, sc_RRII, sh_RRII, sc_RRIII, sh_RRIII, sc_RIIRR, sh_RIIRR, sc_RIIIRR, sh_RIIIRR, sc_RIIR, sh_RIIR, sc_RRIIR, sh_RRIIR, sc_RRIIIR, sh_RRIIIR, sc_RRIIIIR, sh_RRIIIIR, sc_RRIR, sh_RRIR]
  have u2 : upq (upq (upq S.1 703 f) 702 (h 15 (h 303 d 0) f)) 704 (h 400 (h 15 (h 303 d 0) f) 0) 702 = h 15 (h 303 d 0) f := by simp [upq]
  rw [u2]
  refine ⟨h1, l7, h1, ?_⟩
  simp only [enS, flr, rp_o l10, rp_up, rp_ast, rp_q, rp_k, rp_M, rp_rp, Nat.reduceLeDiff, Nat.reduceLT, Nat.reduceEqDiff, or_true, true_or, or_false, false_or, ne_eq, not_false_eq_true]
/-- where the player stands in the game of dungeon d -/
def POk (h : ac_H) (d : Int) (S : (Nat → Int) × (Int → Int)) : Prop := 0 ≤ S.1 703 ∧ S.1 703 < 3 ∧ S.1 702 = flr h d (S.1 703) ∧ 0 ≤ S.1 704 ∧ S.1 704 < 16
/-- down the stairs -/
def gdS (h : ac_H) (d : Int) (S : (Nat → Int) × (Int → Int)) : Int × ((Nat → Int) × (Int → Int)) :=
  if S.1 704 = h 401 (flr h d (S.1 703)) 0 then (if 3 ≤ S.1 703 + 1 then (1, (upq (upq S.1 707 2) 706 (wr (S.1 706 + 20)), S.2)) else (1, enS h d (S.1 703 + 1) S)) else (0, S)
def goS (h : ac_H) (d : Int) (S : (Nat → Int) × (Int → Int)) (r : Int) : Int × ((Nat → Int) × (Int → Int)) :=
  if bhd (h 10 (h 402 (flr h d (S.1 703)) 0)) (S.1 704) r = -1 then (0, S) else
    let T := fgS (upq S.1 704 (bhd (h 10 (h 402 (flr h d (S.1 703)) 0)) (S.1 704) r), S.2)
    (1, if T.1 707 = 1 then T else ttS T)
def tkS (h : ac_H) (d : Int) (S : (Nat → Int) × (Int → Int)) (key : Int) : Int × ((Nat → Int) × (Int → Int)) :=
  if S.1 707 = 0 then (if key = 4 then gdS h d S else if key = 5 then (1, (upq (upq S.1 705 (if rul h d 4 < wr (S.1 705 + rul h d 5) then rul h d 4 else wr (S.1 705 + rul h d 5))) 706 (wr (S.1 706 + -1)), S.2)) else goS h d S key) else (0, S)
theorem GMk_rp {h : ac_H} {P d : Int} {S : (Nat → Int) × (Int → Int)} (hg : GMk h P d) : GMk (rp h P S) P d := by
  obtain ⟨a1, a2, a3, a4, a5, a6⟩ := hg
  have el : ∀ f, flr (rp h P S) d f = flr h d f := fun f => by simp only [flr, rp_up, rp_ast, rp_q, rp_k, rp_M, rp_rp, Nat.reduceLeDiff, Nat.reduceLT, Nat.reduceEqDiff, or_true, true_or, or_false, false_or, ne_eq, not_false_eq_true]
  have er : ∀ f, rul (rp h P S) d f = rul h d f := fun f => by simp only [rul, rp_up, rp_ast, rp_q, rp_k, rp_M, rp_rp, Nat.reduceLeDiff, Nat.reduceLT, Nat.reduceEqDiff, or_true, true_or, or_false, false_or, ne_eq, not_false_eq_true]; rw [rp_o a3]
  refine ⟨by simp only [RPk, rp_up, rp_ast, rp_q, rp_k, rp_M, rp_rp, Nat.reduceLeDiff, Nat.reduceLT, Nat.reduceEqDiff, or_true, true_or, or_false, false_or, ne_eq, not_false_eq_true]; exact a1, by simp only [RUk, er, rp_up, rp_ast, rp_q, rp_k, rp_M, rp_rp, Nat.reduceLeDiff, Nat.reduceLT, Nat.reduceEqDiff, or_true, true_or, or_false, false_or, ne_eq, not_false_eq_true]; exact a2, by simp only [rp_up, rp_ast, rp_q, rp_k, rp_M, rp_rp, Nat.reduceLeDiff, Nat.reduceLT, Nat.reduceEqDiff, or_true, true_or, or_false, false_or, ne_eq, not_false_eq_true]; exact a3, by simp only [rp_up, rp_ast, rp_q, rp_k, rp_M, rp_rp, Nat.reduceLeDiff, Nat.reduceLT, Nat.reduceEqDiff, or_true, true_or, or_false, false_or, ne_eq, not_false_eq_true]; exact a4, by simp only [rp_up, rp_ast, rp_q, rp_k, rp_M, rp_rp, Nat.reduceLeDiff, Nat.reduceLT, Nat.reduceEqDiff, or_true, true_or, or_false, false_or, ne_eq, not_false_eq_true]; exact a5, fun f f0 f1 => ?_⟩
  rw [el]
  simp only [FLk, rp_up, rp_ast, rp_q, rp_k, rp_M, rp_rp, Nat.reduceLeDiff, Nat.reduceLT, Nat.reduceEqDiff, or_true, true_or, or_false, false_or, ne_eq, not_false_eq_true]
  exact a6 f f0 f1
/-- nothing but the player's own words differs -/
def nrm (h : ac_H) (P : Int) (T : (Nat → Int) × (Int → Int)) : Prop := ∀ k, k < 701 ∨ 708 < k → T.1 k = h k P 0
theorem nr_rs (h : ac_H) (P : Int) : nrm h P (rs h P) := fun _ _ => rfl
theorem nr_up {h : ac_H} {P : Int} {T : (Nat → Int) × (Int → Int)} {k : Nat} {v : Int} {f : Int → Int} (hT : nrm h P T) (h1 : 701 ≤ k) (h2 : k ≤ 708) : nrm h P (upq T.1 k v, f) := fun k' hk => by
  show (if k' = k then v else T.1 k') = _
  rw [if_neg (by omega)]; exact hT k' hk
theorem nr_fg {h : ac_H} {P : Int} {T : (Nat → Int) × (Int → Int)} (hT : nrm h P T) : nrm h P (fgS T) := fun k hk => by
  show (if _ then _ else _ : Nat → Int) k = _
  split
  · simp only [upq]; rw [if_neg (by omega), if_neg (by omega)]; exact hT k hk
  · simp only [upq]; rw [if_neg (by omega), if_neg (by omega), if_neg (by omega)]; exact hT k hk
theorem nr_tt {h : ac_H} {P : Int} {T : (Nat → Int) × (Int → Int)} (hT : nrm h P T) : nrm h P (ttS T) := fun k hk => by
  unfold ttS
  split
  · exact hT k hk
  · simp only [upq]; rw [if_neg (by omega), if_neg (by omega)]; exact hT k hk
theorem nr_en {h g : ac_H} {P d f : Int} {T : (Nat → Int) × (Int → Int)} (hT : nrm h P T) : nrm h P (enS g d f T) := fun k hk => by
  simp only [enS, upq]; rw [if_neg (by omega), if_neg (by omega), if_neg (by omega), if_neg (by omega)]; exact hT k hk
theorem nr_go {h g : ac_H} {P d r : Int} {T : (Nat → Int) × (Int → Int)} (hT : nrm h P T) : nrm h P (goS g d T r).2 := by
  unfold goS
  split
  · exact hT
  · have h1 := nr_fg (nr_up (v := bhd (g 10 (g 402 (flr g d (T.1 703)) 0)) (T.1 704) r) (f := T.2) hT (show 701 ≤ 704 by omega) (by omega))
    dsimp only
    split
    · exact h1
    · exact nr_tt h1
theorem nr_gd {h g : ac_H} {P d : Int} {T : (Nat → Int) × (Int → Int)} (hT : nrm h P T) : nrm h P (gdS g d T).2 := by
  unfold gdS
  split
  · split
    · exact nr_up (nr_up (f := T.2) hT (by omega) (by omega)) (by omega) (by omega)
    · exact nr_en hT
  · exact hT
theorem nr_tk {h g : ac_H} {P d key : Int} {T : (Nat → Int) × (Int → Int)} (hT : nrm h P T) : nrm h P (tkS g d T key).2 := by
  unfold tkS
  split
  · split
    · exact nr_gd hT
    · split
      · exact nr_up (nr_up (f := T.2) hT (by omega) (by omega)) (by omega) (by omega)
      · exact nr_go hT
  · exact hT
theorem rs_rp {h : ac_H} {P : Int} {T : (Nat → Int) × (Int → Int)} (hT : nrm h P T) (e : h 700 P 0 ≠ P) : rs (rp h P T) P = T := by
  have e1 : rp h P T 700 P 0 = h 700 P 0 := rp_k (by omega) (by omega)
  unfold rs
  rw [e1, rp_M]
  have e2 : (fun k => rp h P T k P 0) = T.1 := by
    funext k
    simp only [rp]
    by_cases q : 701 ≤ k ∧ k ≤ 708
    · rw [if_pos ⟨trivial, trivial, q⟩]
    · rw [if_neg (fun q2 => q q2.2.2), if_neg (fun q2 => e q2.2.symm)]
      exact (hT k (by omega)).symm
  rw [e2]
theorem rp_up0 {h : ac_H} {P : Int} {k : Nat} {v : Int} (h1 : 701 ≤ k) (h2 : k ≤ 708) : up h k P 0 v = rp h P (upq (rs h P).1 k v, (rs h P).2) := by
  have := rp_up (h := h) (P := P) (S := rs h P) (v := v) h1 h2
  rwa [rp_rs] at this
def spX6_go : ac_Sp := sc_RI (fun P r h => RPk h P ∧ ∃ d, GMk h P d ∧ POk h d (rs h P)) (fun P r h v h' => ∀ d, GMk h P d → POk h d (rs h P) → v = some (.inl (goS h d (rs h P) r).1) ∧ h' = rp h P (goS h d (rs h P) r).2) (fun _ _ _ _ _ => False)
set_option maxRecDepth 100000 in
set_option maxHeartbeats 4000000 in
theorem mtX6_go {G : ac_G} {l : Launch} : ac_Met G l yX6_go mX6_go 2 45 0 0 spX6_go := by
  refine ac_meth1 (pcs := pcX6_go) (B := fun P X J j => vcX6_go spX3_behindDoor spX8_isRoom spX6_fight spX6_takeTreasure P X J j) (by decide) rfl rfl rfl (fun P X J hJ j => sdX6_go mtX3_behindDoor mtX8_isRoom mtX6_fight mtX6_takeTreasure P X J hJ j) (hp_RI (by decide)) fun As h hp => ?_
  obtain ⟨P, r, rfl, hp⟩ := sh_RI_inv hp
  simp only [spX6_go, vcX6_go, mX6_go, spX3_behindDoor, spX8_isRoom, spX6_fight, spX6_takeTreasure, sc_RI, sh_RI, ac_ent, ldI, ldR, stI, stR, inc, cI, cJ, cN, bop, oAdd, oSub, oMul, oAnd, oOr, oXor, oShl, oShr, oUshr, oRem, oDiv, oMx, oMn, oI2l, oLcmp, oDup, oDup2, oDupX1, oPop, bIc, bI0, bNul, getI, getR, putI, putZ, putR, aLen, aldI, aldZ, aldJ, aldR, astI, astZ, astJ, astR, nwO, nwA, gsT, oObj, oCpy, oCln, oCst, rtI, rtZ, rtR, rtV, thr, call, callH, ac_hsel, ac_as, ac_rs, ac_cs, ac_rcv, List.map_cons, List.map_nil, List.length_cons, List.length_nil, List.replicate, List.append_nil, List.cons_append, List.nil_append, List.getElem?_cons_zero, List.getElem?_cons_succ, List.set, Nat.zero_add, Nat.add_zero, Nat.le_refl, Nat.reduceAdd, Nat.reduceSub, Nat.reduceLeDiff, Int.reduceLT, Int.reduceLE, Int.reduceNeg, Int.reduceEq, true_and, and_true, true_or, or_true, not_true_eq_false, not_false_eq_true, false_implies, true_implies, implies_true, reduceIte, and_self, Int.reduceAdd, Int.reduceMul, Int.reduceSub, eq_self, Int.add_zero, Int.zero_add, String.reduceEq, Nat.zero_le, Option.some.injEq, Sum.inl.injEq, Sum.inr.injEq, reduceCtorEq, Int.reduceToNat, Option.toList_some, Option.toList_none, ac_cs, ac_c10, ac_c11, ac_c12, ac_c13, ac_c14, ac_c15, ac_c16, ac_c17, sc_E, sh_E, sc_I, sh_I, sc_II, sh_II, sc_III, sh_III, sc_R, sh_R, sc_RI, sh_RI, sc_RII, sh_RII, sc_RIII, sh_RIII, sc_RIIII, sh_RIIII, sc_RR, sh_RR, sc_RRI, sh_RRI, sc_RRR, sh_RRR, sc_RIR, sh_RIR, sc_RIRI, sh_RIRI, sc_RRII, sh_RRII, sc_RRIII, sh_RRIII, sc_RIIRR, sh_RIIRR, sc_RIIIRR, sh_RIIIRR, sc_RIIR, sh_RIIR, sc_RRIIR, sh_RRIIR, sc_RRIIIR, sh_RRIIIR, sc_RRIIIIR, sh_RRIIIIR, sc_RRIR, sh_RRIR]
  obtain ⟨⟨h1, h2, h3⟩, d, hg, hs⟩ := hp
  obtain ⟨s1, s2, s3, s4, s5⟩ := hs
  have s3' : h 702 P 0 = flr h d (h 703 P 0) := s3
  obtain ⟨l0, l1, l2, l3, l4, l5⟩ := hg.2.2.2.2.2 _ s1 s2
  obtain ⟨k1, k2, k3, k4, k5, -⟩ := id l1
  rw [← s3] at l0 k1 k4 k5
  have c1 : h 702 P 0 ≠ 0 := by have : 0 < h 702 P 0 := l0; omega
  have c2 : h 0 (h 702 P 0) 0 = 23 := k1
  have c3 : h 0 (h 402 (h 702 P 0) 0) 0 = 10 := k4
  have c4 : h 1 (h 402 (h 702 P 0) 0) 0 = 16 := k5
  have c5 : 0 ≤ h 704 P 0 := s4
  have c6 : h 704 P 0 < 16 := s5
  have nP : h 700 P 0 ≠ P := fun e => by rw [e] at h2; omega
  have fin : ∀ (z : Int) (g : ac_H), (z = (goS h d (rs h P) r).1 ∧ g = rp h P (goS h d (rs h P) r).2) → ∀ d', GMk h P d' → POk h d' (rs h P) → z = (goS h d' (rs h P) r).1 ∧ g = rp h P (goS h d' (rs h P) r).2 := by
    intro z g hz d' _ hs'
    have e : flr h d' ((rs h P).1 703) = flr h d ((rs h P).1 703) := by rw [← hs'.2.2.1, ← s3]
    unfold goS at hz ⊢
    rw [e]; exact hz
  have gs : goS h d (rs h P) r = if bhd (h 10 (h 402 (h 702 P 0) 0)) (h 704 P 0) r = -1 then (0, rs h P) else
    (1, if (fgS (upq (rs h P).1 704 (bhd (h 10 (h 402 (h 702 P 0) 0)) (h 704 P 0) r), (rs h P).2)).1 707 = 1 then fgS (upq (rs h P).1 704 (bhd (h 10 (h 402 (h 702 P 0) 0)) (h 704 P 0) r), (rs h P).2) else ttS (fgS (upq (rs h P).1 704 (bhd (h 10 (h 402 (h 702 P 0) 0)) (h 704 P 0) r), (rs h P).2))) := by
    unfold goS
    rw [← s3]; rfl
  simp only [h1, c1, c2, c3, c4, c5, c6, ac_ent, ldI, ldR, stI, stR, inc, cI, cJ, cN, bop, oAdd, oSub, oMul, oAnd, oOr, oXor, oShl, oShr, oUshr, oRem, oDiv, oMx, oMn, oI2l, oLcmp, oDup, oDup2, oDupX1, oPop, bIc, bI0, bNul, getI, getR, putI, putZ, putR, aLen, aldI, aldZ, aldJ, aldR, astI, astZ, astJ, astR, nwO, nwA, gsT, oObj, oCpy, oCln, oCst, rtI, rtZ, rtR, rtV, thr, call, callH, ac_hsel, ac_as, ac_rs, ac_cs, ac_rcv, List.map_cons, List.map_nil, List.length_cons, List.length_nil, List.replicate, List.append_nil, List.cons_append, List.nil_append, List.getElem?_cons_zero, List.getElem?_cons_succ, List.set, Nat.zero_add, Nat.add_zero, Nat.le_refl, Nat.reduceAdd, Nat.reduceSub, Nat.reduceLeDiff, Int.reduceLT, Int.reduceLE, Int.reduceNeg, Int.reduceEq, true_and, and_true, true_or, or_true, not_true_eq_false, not_false_eq_true, false_implies, true_implies, implies_true, reduceIte, and_self, Int.reduceAdd, Int.reduceMul, Int.reduceSub, eq_self, Int.add_zero, Int.zero_add, String.reduceEq, Nat.zero_le, Option.some.injEq, Sum.inl.injEq, Sum.inr.injEq, reduceCtorEq, Int.reduceToNat, Option.toList_some, Option.toList_none, ac_cs, ac_c10, ac_c11, ac_c12, ac_c13, ac_c14, ac_c15, ac_c16, ac_c17, sc_E, sh_E, sc_I, sh_I, sc_II, sh_II, sc_III, sh_III, sc_R, sh_R, sc_RI, sh_RI, sc_RII, sh_RII, sc_RIII, sh_RIII, sc_RIIII, sh_RIIII, sc_RR, sh_RR, sc_RRI, sh_RRI, sc_RRR, sh_RRR, sc_RIR, sh_RIR, sc_RIRI, sh_RIRI, sc_RRII, sh_RRII, sc_RRIII, sh_RRIII, sc_RIIRR, sh_RIIRR, sc_RIIIRR, sh_RIIIRR, sc_RIIR, sh_RIIR, sc_RRIIR, sh_RRIIR, sc_RRIIIR, sh_RRIIIR, sc_RRIIIIR, sh_RRIIIIR, sc_RRIR, sh_RRIR]
  rintro v h0 ⟨rfl, rfl⟩
  simp only [ac_ent, ldI, ldR, stI, stR, inc, cI, cJ, cN, bop, oAdd, oSub, oMul, oAnd, oOr, oXor, oShl, oShr, oUshr, oRem, oDiv, oMx, oMn, oI2l, oLcmp, oDup, oDup2, oDupX1, oPop, bIc, bI0, bNul, getI, getR, putI, putZ, putR, aLen, aldI, aldZ, aldJ, aldR, astI, astZ, astJ, astR, nwO, nwA, gsT, oObj, oCpy, oCln, oCst, rtI, rtZ, rtR, rtV, thr, call, callH, ac_hsel, ac_as, ac_rs, ac_cs, ac_rcv, List.map_cons, List.map_nil, List.length_cons, List.length_nil, List.replicate, List.append_nil, List.cons_append, List.nil_append, List.getElem?_cons_zero, List.getElem?_cons_succ, List.set, Nat.zero_add, Nat.add_zero, Nat.le_refl, Nat.reduceAdd, Nat.reduceSub, Nat.reduceLeDiff, Int.reduceLT, Int.reduceLE, Int.reduceNeg, Int.reduceEq, true_and, and_true, true_or, or_true, not_true_eq_false, not_false_eq_true, false_implies, true_implies, implies_true, reduceIte, and_self, Int.reduceAdd, Int.reduceMul, Int.reduceSub, eq_self, Int.add_zero, Int.zero_add, String.reduceEq, Nat.zero_le, Option.some.injEq, Sum.inl.injEq, Sum.inr.injEq, reduceCtorEq, Int.reduceToNat, Option.toList_some, Option.toList_none, ac_cs, ac_c10, ac_c11, ac_c12, ac_c13, ac_c14, ac_c15, ac_c16, ac_c17, sc_E, sh_E, sc_I, sh_I, sc_II, sh_II, sc_III, sh_III, sc_R, sh_R, sc_RI, sh_RI, sc_RII, sh_RII, sc_RIII, sh_RIII, sc_RIIII, sh_RIIII, sc_RR, sh_RR, sc_RRI, sh_RRI, sc_RRR, sh_RRR, sc_RIR, sh_RIR, sc_RIRI, sh_RIRI, sc_RRII, sh_RRII, sc_RRIII, sh_RRIII, sc_RIIRR, sh_RIIRR, sc_RIIIRR, sh_RIIIRR, sc_RIIR, sh_RIIR, sc_RRIIR, sh_RRIIR, sc_RRIIIR, sh_RRIIIR, sc_RRIIIIR, sh_RRIIIIR, sc_RRIR, sh_RRIR]
  rintro v h' ⟨rfl, rfl⟩
  simp only [h1, ac_ent, ldI, ldR, stI, stR, inc, cI, cJ, cN, bop, oAdd, oSub, oMul, oAnd, oOr, oXor, oShl, oShr, oUshr, oRem, oDiv, oMx, oMn, oI2l, oLcmp, oDup, oDup2, oDupX1, oPop, bIc, bI0, bNul, getI, getR, putI, putZ, putR, aLen, aldI, aldZ, aldJ, aldR, astI, astZ, astJ, astR, nwO, nwA, gsT, oObj, oCpy, oCln, oCst, rtI, rtZ, rtR, rtV, thr, call, callH, ac_hsel, ac_as, ac_rs, ac_cs, ac_rcv, List.map_cons, List.map_nil, List.length_cons, List.length_nil, List.replicate, List.append_nil, List.cons_append, List.nil_append, List.getElem?_cons_zero, List.getElem?_cons_succ, List.set, Nat.zero_add, Nat.add_zero, Nat.le_refl, Nat.reduceAdd, Nat.reduceSub, Nat.reduceLeDiff, Int.reduceLT, Int.reduceLE, Int.reduceNeg, Int.reduceEq, true_and, and_true, true_or, or_true, not_true_eq_false, not_false_eq_true, false_implies, true_implies, implies_true, reduceIte, and_self, Int.reduceAdd, Int.reduceMul, Int.reduceSub, eq_self, Int.add_zero, Int.zero_add, String.reduceEq, Nat.zero_le, Option.some.injEq, Sum.inl.injEq, Sum.inr.injEq, reduceCtorEq, Int.reduceToNat, Option.toList_some, Option.toList_none, ac_cs, ac_c10, ac_c11, ac_c12, ac_c13, ac_c14, ac_c15, ac_c16, ac_c17, sc_E, sh_E, sc_I, sh_I, sc_II, sh_II, sc_III, sh_III, sc_R, sh_R, sc_RI, sh_RI, sc_RII, sh_RII, sc_RIII, sh_RIII, sc_RIIII, sh_RIIII, sc_RR, sh_RR, sc_RRI, sh_RRI, sc_RRR, sh_RRR, sc_RIR, sh_RIR, sc_RIRI, sh_RIRI, sc_RRII, sh_RRII, sc_RRIII, sh_RRIII, sc_RIIRR, sh_RIIRR, sc_RIIIRR, sh_RIIIRR, sc_RIIR, sh_RIIR, sc_RRIIR, sh_RRIIR, sc_RRIIIR, sh_RRIIIR, sc_RRIIIIR, sh_RRIIIIR, sc_RRIR, sh_RRIR]
  rcases bhd_r (f := h' 10 (h' 402 (h' 702 P 0) 0)) (d := r) c5 c6 with e | hr
  · refine ⟨fun _ => fin _ _ ?_, fun q => absurd (show rm1 (bhd (h' 10 (h' 402 (h' 702 P 0) 0)) (h' 704 P 0) r) = 0 by rw [e]; decide) q⟩
    rw [gs, if_pos e]; exact ⟨rfl, (rp_rs h' P).symm⟩
  · have e : bhd (h' 10 (h' 402 (h' 702 P 0) 0)) (h' 704 P 0) r ≠ -1 := by omega
    refine ⟨fun q => absurd (q.symm.trans (rm_y hr.1 hr.2)) (by decide), fun _ => ?_⟩
    rw [if_neg e] at gs
    rw [rp_up0 (by omega) (by omega)]
    have n1 := nr_up (h := h') (P := P) (v := bhd (h' 10 (h' 402 (h' 702 P 0) 0)) (h' 704 P 0) r) (f := (rs h' P).2) (nr_rs h' P) (show 701 ≤ 704 by omega) (by omega)
    have eT : ((ffS ((rs h' P).2 (bhd (h' 10 (h' 402 (h' 702 P 0) 0)) (h' 704 P 0) r)) (upq (rs h' P).1 704 (bhd (h' 10 (h' 402 (h' 702 P 0) 0)) (h' 704 P 0) r), (rs h' P).2)).1, fu (ffS ((rs h' P).2 (bhd (h' 10 (h' 402 (h' 702 P 0) 0)) (h' 704 P 0) r)) (upq (rs h' P).1 704 (bhd (h' 10 (h' 402 (h' 702 P 0) 0)) (h' 704 P 0) r), (rs h' P).2)).2 (bhd (h' 10 (h' 402 (h' 702 P 0) 0)) (h' 704 P 0) r) 0) = fgS (upq (rs h' P).1 704 (bhd (h' 10 (h' 402 (h' 702 P 0) 0)) (h' 704 P 0) r), (rs h' P).2) := by
      have e7 : upq (rs h' P).1 704 (bhd (h' 10 (h' 402 (h' 702 P 0) 0)) (h' 704 P 0) r) 704 = bhd (h' 10 (h' 402 (h' 702 P 0) 0)) (h' 704 P 0) r := if_pos rfl
      simp only [ffS, fgS, e7]
    simp only [rp_up, rp_ast, rp_q, rp_k, rp_M, rp_rp, Nat.reduceLeDiff, Nat.reduceLT, Nat.reduceEqDiff, or_true, true_or, or_false, false_or, ne_eq, not_false_eq_true, RPk, h1, h2, h3, hr.1, hr.2, rs_rp n1 nP, ac_ent, ldI, ldR, stI, stR, inc, cI, cJ, cN, bop, oAdd, oSub, oMul, oAnd, oOr, oXor, oShl, oShr, oUshr, oRem, oDiv, oMx, oMn, oI2l, oLcmp, oDup, oDup2, oDupX1, oPop, bIc, bI0, bNul, getI, getR, putI, putZ, putR, aLen, aldI, aldZ, aldJ, aldR, astI, astZ, astJ, astR, nwO, nwA, gsT, oObj, oCpy, oCln, oCst, rtI, rtZ, rtR, rtV, thr, call, callH, ac_hsel, ac_as, ac_rs, ac_cs, ac_rcv, List.map_cons, List.map_nil, List.length_cons, List.length_nil, List.replicate, List.append_nil, List.cons_append, List.nil_append, List.getElem?_cons_zero, List.getElem?_cons_succ, List.set, Nat.zero_add, Nat.add_zero, Nat.le_refl, Nat.reduceAdd, Nat.reduceSub, Nat.reduceLeDiff, Int.reduceLT, Int.reduceLE, Int.reduceNeg, Int.reduceEq, true_and, and_true, true_or, or_true, not_true_eq_false, not_false_eq_true, false_implies, true_implies, implies_true, reduceIte, and_self, Int.reduceAdd, Int.reduceMul, Int.reduceSub, eq_self, Int.add_zero, Int.zero_add, String.reduceEq, Nat.zero_le, Option.some.injEq, Sum.inl.injEq, Sum.inr.injEq, reduceCtorEq, Int.reduceToNat, Option.toList_some, Option.toList_none, ac_cs, ac_c10, ac_c11, ac_c12, ac_c13, ac_c14, ac_c15, ac_c16, ac_c17, sc_E, sh_E, sc_I, sh_I, sc_II, sh_II, sc_III, sh_III, sc_R, sh_R, sc_RI, sh_RI, sc_RII, sh_RII, sc_RIII, sh_RIII, sc_RIIII, sh_RIIII, sc_RR, sh_RR, sc_RRI, sh_RRI, sc_RRR, sh_RRR, sc_RIR, sh_RIR, sc_RIRI, sh_RIRI, sc_RRII, sh_RRII, sc_RRIII, sh_RRIII, sc_RIIRR, sh_RIIRR, sc_RIIIRR, sh_RIIIRR, sc_RIIR, sh_RIIR, sc_RRIIR, sh_RRIIR, sc_RRIIIR, sh_RRIIIR, sc_RRIIIIR, sh_RRIIIIR, sc_RRIR, sh_RRIR]
    rintro v g ⟨rfl, rfl⟩
    have n2 := nr_fg n1
    simp only [up10, rp_up, rp_ast, rp_q, rp_k, rp_M, rp_rp, Nat.reduceLeDiff, Nat.reduceLT, Nat.reduceEqDiff, or_true, true_or, or_false, false_or, ne_eq, not_false_eq_true, h1, h2, h3, hr.1, hr.2, eT, rs_rp n2 nP, ac_ent, ldI, ldR, stI, stR, inc, cI, cJ, cN, bop, oAdd, oSub, oMul, oAnd, oOr, oXor, oShl, oShr, oUshr, oRem, oDiv, oMx, oMn, oI2l, oLcmp, oDup, oDup2, oDupX1, oPop, bIc, bI0, bNul, getI, getR, putI, putZ, putR, aLen, aldI, aldZ, aldJ, aldR, astI, astZ, astJ, astR, nwO, nwA, gsT, oObj, oCpy, oCln, oCst, rtI, rtZ, rtR, rtV, thr, call, callH, ac_hsel, ac_as, ac_rs, ac_cs, ac_rcv, List.map_cons, List.map_nil, List.length_cons, List.length_nil, List.replicate, List.append_nil, List.cons_append, List.nil_append, List.getElem?_cons_zero, List.getElem?_cons_succ, List.set, Nat.zero_add, Nat.add_zero, Nat.le_refl, Nat.reduceAdd, Nat.reduceSub, Nat.reduceLeDiff, Int.reduceLT, Int.reduceLE, Int.reduceNeg, Int.reduceEq, true_and, and_true, true_or, or_true, not_true_eq_false, not_false_eq_true, false_implies, true_implies, implies_true, reduceIte, and_self, Int.reduceAdd, Int.reduceMul, Int.reduceSub, eq_self, Int.add_zero, Int.zero_add, String.reduceEq, Nat.zero_le, Option.some.injEq, Sum.inl.injEq, Sum.inr.injEq, reduceCtorEq, Int.reduceToNat, Option.toList_some, Option.toList_none, ac_cs, ac_c10, ac_c11, ac_c12, ac_c13, ac_c14, ac_c15, ac_c16, ac_c17, sc_E, sh_E, sc_I, sh_I, sc_II, sh_II, sc_III, sh_III, sc_R, sh_R, sc_RI, sh_RI, sc_RII, sh_RII, sc_RIII, sh_RIII, sc_RIIII, sh_RIIII, sc_RR, sh_RR, sc_RRI, sh_RRI, sc_RRR, sh_RRR, sc_RIR, sh_RIR, sc_RIRI, sh_RIRI, sc_RRII, sh_RRII, sc_RRIII, sh_RRIII, sc_RIIRR, sh_RIIRR, sc_RIIIRR, sh_RIIIRR, sc_RIIR, sh_RIIR, sc_RRIIR, sh_RRIIR, sc_RRIIIR, sh_RRIIIR, sc_RRIIIIR, sh_RRIIIIR, sc_RRIR, sh_RRIR]
    refine ⟨fun e2 => fin _ _ ?_, fun e2 => ?_⟩
    · rw [gs, if_pos e2]; exact ⟨rfl, rfl⟩
    · rintro v g ⟨rfl, rfl⟩
      simp only [rp_up, rp_ast, rp_q, rp_k, rp_M, rp_rp, Nat.reduceLeDiff, Nat.reduceLT, Nat.reduceEqDiff, or_true, true_or, or_false, false_or, ne_eq, not_false_eq_true, ac_ent, ldI, ldR, stI, stR, inc, cI, cJ, cN, bop, oAdd, oSub, oMul, oAnd, oOr, oXor, oShl, oShr, oUshr, oRem, oDiv, oMx, oMn, oI2l, oLcmp, oDup, oDup2, oDupX1, oPop, bIc, bI0, bNul, getI, getR, putI, putZ, putR, aLen, aldI, aldZ, aldJ, aldR, astI, astZ, astJ, astR, nwO, nwA, gsT, oObj, oCpy, oCln, oCst, rtI, rtZ, rtR, rtV, thr, call, callH, ac_hsel, ac_as, ac_rs, ac_cs, ac_rcv, List.map_cons, List.map_nil, List.length_cons, List.length_nil, List.replicate, List.append_nil, List.cons_append, List.nil_append, List.getElem?_cons_zero, List.getElem?_cons_succ, List.set, Nat.zero_add, Nat.add_zero, Nat.le_refl, Nat.reduceAdd, Nat.reduceSub, Nat.reduceLeDiff, Int.reduceLT, Int.reduceLE, Int.reduceNeg, Int.reduceEq, true_and, and_true, true_or, or_true, not_true_eq_false, not_false_eq_true, false_implies, true_implies, implies_true, reduceIte, and_self, Int.reduceAdd, Int.reduceMul, Int.reduceSub, eq_self, Int.add_zero, Int.zero_add, String.reduceEq, Nat.zero_le, Option.some.injEq, Sum.inl.injEq, Sum.inr.injEq, reduceCtorEq, Int.reduceToNat, Option.toList_some, Option.toList_none, ac_cs, ac_c10, ac_c11, ac_c12, ac_c13, ac_c14, ac_c15, ac_c16, ac_c17, sc_E, sh_E, sc_I, sh_I, sc_II, sh_II, sc_III, sh_III, sc_R, sh_R, sc_RI, sh_RI, sc_RII, sh_RII, sc_RIII, sh_RIII, sc_RIIII, sh_RIIII, sc_RR, sh_RR, sc_RRI, sh_RRI, sc_RRR, sh_RRR, sc_RIR, sh_RIR, sc_RIRI, sh_RIRI, sc_RRII, sh_RRII, sc_RRIII, sh_RRIII, sc_RIIRR, sh_RIIRR, sc_RIIIRR, sh_RIIIRR, sc_RIIR, sh_RIIR, sc_RRIIR, sh_RRIIR, sc_RRIIIR, sh_RRIIIR, sc_RRIIIIR, sh_RRIIIIR, sc_RRIR, sh_RRIR]
      refine fin _ _ ?_
      rw [gs, if_neg e2]; exact ⟨rfl, rfl⟩
def spX6_goDown : ac_Sp := sc_RR (fun P d h => GMk h P d ∧ POk h d (rs h P)) (fun P d h v h' => v = some (.inl (gdS h d (rs h P)).1) ∧ h' = rp h P (gdS h d (rs h P)).2) (fun _ _ _ _ _ => False)
set_option maxRecDepth 100000 in
set_option maxHeartbeats 4000000 in
theorem mtX6_goDown {G : ac_G} {l : Launch} : ac_Met G l yX6_goDown mX6_goDown 2 52 0 0 spX6_goDown := by
  refine ac_meth1 (pcs := pcX6_goDown) (B := fun P X J j => vcX6_goDown spX6_enter P X J j) (by decide) rfl rfl rfl (fun P X J hJ j => sdX6_goDown mtX6_enter P X J hJ j) (hp_RR (by decide)) fun As h hp => ?_
  obtain ⟨P, d, rfl, hp⟩ := sh_RR_inv hp
  simp only [spX6_goDown, vcX6_goDown, mX6_goDown, spX6_enter, sc_RR, sh_RR, ac_ent, ldI, ldR, stI, stR, inc, cI, cJ, cN, bop, oAdd, oSub, oMul, oAnd, oOr, oXor, oShl, oShr, oUshr, oRem, oDiv, oMx, oMn, oI2l, oLcmp, oDup, oDup2, oDupX1, oPop, bIc, bI0, bNul, getI, getR, putI, putZ, putR, aLen, aldI, aldZ, aldJ, aldR, astI, astZ, astJ, astR, nwO, nwA, gsT, oObj, oCpy, oCln, oCst, rtI, rtZ, rtR, rtV, thr, call, callH, ac_hsel, ac_as, ac_rs, ac_cs, ac_rcv, List.map_cons, List.map_nil, List.length_cons, List.length_nil, List.replicate, List.append_nil, List.cons_append, List.nil_append, List.getElem?_cons_zero, List.getElem?_cons_succ, List.set, Nat.zero_add, Nat.add_zero, Nat.le_refl, Nat.reduceAdd, Nat.reduceSub, Nat.reduceLeDiff, Int.reduceLT, Int.reduceLE, Int.reduceNeg, Int.reduceEq, true_and, and_true, true_or, or_true, not_true_eq_false, not_false_eq_true, false_implies, true_implies, implies_true, reduceIte, and_self, Int.reduceAdd, Int.reduceMul, Int.reduceSub, eq_self, Int.add_zero, Int.zero_add, String.reduceEq, Nat.zero_le, Option.some.injEq, Sum.inl.injEq, Sum.inr.injEq, reduceCtorEq, Int.reduceToNat, Option.toList_some, Option.toList_none, ac_cs, ac_c10, ac_c11, ac_c12, ac_c13, ac_c14, ac_c15, ac_c16, ac_c17, sc_E, sh_E, sc_I, sh_I, sc_II, sh_II, sc_III, sh_III, sc_R, sh_R, sc_RI, sh_RI, sc_RII, sh_RII, sc_RIII, sh_RIII, sc_RIIII, sh_RIIII, sc_RR, sh_RR, sc_RRI, sh_RRI, sc_RRR, sh_RRR, sc_RIR, sh_RIR, sc_RIRI, sh_RIRI, sc_RRII, sh_RRII, sc_RRIII, sh_RRIII, sc_RIIRR, sh_RIIRR, sc_RIIIRR, sh_RIIIRR, sc_RIIR, sh_RIIR, sc_RRIIR, sh_RRIIR, sc_RRIIIR, sh_RRIIIR, sc_RRIIIIR, sh_RRIIIIR, sc_RRIR, sh_RRIR]
  obtain ⟨hg, hs⟩ := hp
  obtain ⟨h1, h2, h3⟩ := id hg.1
  obtain ⟨s1, s2, s3, s4, s5⟩ := hs
  have s3' : h 702 P 0 = flr h d (h 703 P 0) := s3
  obtain ⟨l0, l1, l2, l3, l4, l5⟩ := hg.2.2.2.2.2 _ s1 s2
  obtain ⟨k1, k2, k3, k4, k5, -⟩ := id l1
  rw [← s3] at l0 k1 k4 k5
  have c1 : h 702 P 0 ≠ 0 := by have : 0 < h 702 P 0 := l0; omega
  have c2 : h 0 (h 702 P 0) 0 = 23 := k1
  have c7 : 0 ≤ h 703 P 0 := s1
  have c8 : h 703 P 0 < 3 := s2
  have nP : h 700 P 0 ≠ P := fun e => by rw [e] at h2; omega
  have gs : gdS h d (rs h P) = if h 704 P 0 = h 401 (h 702 P 0) 0 then (if 3 ≤ h 703 P 0 + 1 then (1, (upq (upq (rs h P).1 707 2) 706 (wr (h 706 P 0 + 20)), (rs h P).2)) else (1, enS h d (h 703 P 0 + 1) (rs h P))) else (0, rs h P) := by
    unfold gdS
    rw [← s3]; rfl
  simp only [h1, c1, c2, up_k, ast_k, up_kf, ast_kf, ne_eq, Nat.reduceEqDiff, not_false_eq_true, ac_ent, ldI, ldR, stI, stR, inc, cI, cJ, cN, bop, oAdd, oSub, oMul, oAnd, oOr, oXor, oShl, oShr, oUshr, oRem, oDiv, oMx, oMn, oI2l, oLcmp, oDup, oDup2, oDupX1, oPop, bIc, bI0, bNul, getI, getR, putI, putZ, putR, aLen, aldI, aldZ, aldJ, aldR, astI, astZ, astJ, astR, nwO, nwA, gsT, oObj, oCpy, oCln, oCst, rtI, rtZ, rtR, rtV, thr, call, callH, ac_hsel, ac_as, ac_rs, ac_cs, ac_rcv, List.map_cons, List.map_nil, List.length_cons, List.length_nil, List.replicate, List.append_nil, List.cons_append, List.nil_append, List.getElem?_cons_zero, List.getElem?_cons_succ, List.set, Nat.zero_add, Nat.add_zero, Nat.le_refl, Nat.reduceAdd, Nat.reduceSub, Nat.reduceLeDiff, Int.reduceLT, Int.reduceLE, Int.reduceNeg, Int.reduceEq, true_and, and_true, true_or, or_true, not_true_eq_false, not_false_eq_true, false_implies, true_implies, implies_true, reduceIte, and_self, Int.reduceAdd, Int.reduceMul, Int.reduceSub, eq_self, Int.add_zero, Int.zero_add, String.reduceEq, Nat.zero_le, Option.some.injEq, Sum.inl.injEq, Sum.inr.injEq, reduceCtorEq, Int.reduceToNat, Option.toList_some, Option.toList_none, ac_cs, ac_c10, ac_c11, ac_c12, ac_c13, ac_c14, ac_c15, ac_c16, ac_c17, sc_E, sh_E, sc_I, sh_I, sc_II, sh_II, sc_III, sh_III, sc_R, sh_R, sc_RI, sh_RI, sc_RII, sh_RII, sc_RIII, sh_RIII, sc_RIIII, sh_RIIII, sc_RR, sh_RR, sc_RRI, sh_RRI, sc_RRR, sh_RRR, sc_RIR, sh_RIR, sc_RIRI, sh_RIRI, sc_RRII, sh_RRII, sc_RRIII, sh_RRIII, sc_RIIRR, sh_RIIRR, sc_RIIIRR, sh_RIIIRR, sc_RIIR, sh_RIIR, sc_RRIIR, sh_RRIIR, sc_RRIIIR, sh_RRIIIR, sc_RRIIIIR, sh_RRIIIIR, sc_RRIR, sh_RRIR]
  simp (disch := omega) only [wr_of]
  refine ⟨fun e => ⟨fun e2 => ?_, fun e2 => ⟨⟨hg, by omega, by omega⟩, ?_⟩⟩, fun e => ?_⟩
  · rw [gs, if_pos e, if_pos e2]
    refine ⟨rfl, ?_⟩
    rw [rp_up0 (show 701 ≤ 707 by omega) (by omega), rp_up (by omega) (by omega)]
  · rintro v g ⟨rfl, rfl⟩
    rw [gs, if_pos e, if_neg e2]
    simp only [ac_ent, ldI, ldR, stI, stR, inc, cI, cJ, cN, bop, oAdd, oSub, oMul, oAnd, oOr, oXor, oShl, oShr, oUshr, oRem, oDiv, oMx, oMn, oI2l, oLcmp, oDup, oDup2, oDupX1, oPop, bIc, bI0, bNul, getI, getR, putI, putZ, putR, aLen, aldI, aldZ, aldJ, aldR, astI, astZ, astJ, astR, nwO, nwA, gsT, oObj, oCpy, oCln, oCst, rtI, rtZ, rtR, rtV, thr, call, callH, ac_hsel, ac_as, ac_rs, ac_cs, ac_rcv, List.map_cons, List.map_nil, List.length_cons, List.length_nil, List.replicate, List.append_nil, List.cons_append, List.nil_append, List.getElem?_cons_zero, List.getElem?_cons_succ, List.set, Nat.zero_add, Nat.add_zero, Nat.le_refl, Nat.reduceAdd, Nat.reduceSub, Nat.reduceLeDiff, Int.reduceLT, Int.reduceLE, Int.reduceNeg, Int.reduceEq, true_and, and_true, true_or, or_true, not_true_eq_false, not_false_eq_true, false_implies, true_implies, implies_true, reduceIte, and_self, Int.reduceAdd, Int.reduceMul, Int.reduceSub, eq_self, Int.add_zero, Int.zero_add, String.reduceEq, Nat.zero_le, Option.some.injEq, Sum.inl.injEq, Sum.inr.injEq, reduceCtorEq, Int.reduceToNat, Option.toList_some, Option.toList_none, ac_cs, ac_c10, ac_c11, ac_c12, ac_c13, ac_c14, ac_c15, ac_c16, ac_c17, sc_E, sh_E, sc_I, sh_I, sc_II, sh_II, sc_III, sh_III, sc_R, sh_R, sc_RI, sh_RI, sc_RII, sh_RII, sc_RIII, sh_RIII, sc_RIIII, sh_RIIII, sc_RR, sh_RR, sc_RRI, sh_RRI, sc_RRR, sh_RRR, sc_RIR, sh_RIR, sc_RIRI, sh_RIRI, sc_RRII, sh_RRII, sc_RRIII, sh_RRIII, sc_RIIRR, sh_RIIRR, sc_RIIIRR, sh_RIIIRR, sc_RIIR, sh_RIIR, sc_RRIIR, sh_RRIIR, sc_RRIIIR, sh_RRIIIR, sc_RRIIIIR, sh_RRIIIIR, sc_RRIR, sh_RRIR]
  · rw [gs, if_neg e]
    exact ⟨rfl, (rp_rs h P).symm⟩
def spX6_take : ac_Sp := sc_RIR (fun P key d h => GMk h P d ∧ POk h d (rs h P)) (fun P key d h v h' => v = some (.inl (tkS h d (rs h P) key).1) ∧ h' = rp h P (tkS h d (rs h P) key).2) (fun _ _ _ _ _ _ => False)
set_option maxRecDepth 100000 in
set_option maxHeartbeats 4000000 in
theorem mtX6_take {G : ac_G} {l : Launch} : ac_Met G l yX6_take mX6_take 3 73 0 0 spX6_take := by
  refine ac_meth1 (pcs := pcX6_take) (B := fun P X J j => vcX6_take spX6_goDown spX2_rule spX6_go P X J j) (by decide) rfl rfl rfl (fun P X J hJ j => sdX6_take mtX6_goDown mtX2_rule mtX6_go P X J hJ j) (hp_RIR (by decide)) fun As h hp => ?_
  obtain ⟨P, key, d, rfl, hp⟩ := sh_RIR_inv hp
  simp only [spX6_take, vcX6_take, mX6_take, spX6_goDown, spX2_rule, spX6_go, sc_RIR, sh_RIR, ac_ent, ldI, ldR, stI, stR, inc, cI, cJ, cN, bop, oAdd, oSub, oMul, oAnd, oOr, oXor, oShl, oShr, oUshr, oRem, oDiv, oMx, oMn, oI2l, oLcmp, oDup, oDup2, oDupX1, oPop, bIc, bI0, bNul, getI, getR, putI, putZ, putR, aLen, aldI, aldZ, aldJ, aldR, astI, astZ, astJ, astR, nwO, nwA, gsT, oObj, oCpy, oCln, oCst, rtI, rtZ, rtR, rtV, thr, call, callH, ac_hsel, ac_as, ac_rs, ac_cs, ac_rcv, List.map_cons, List.map_nil, List.length_cons, List.length_nil, List.replicate, List.append_nil, List.cons_append, List.nil_append, List.getElem?_cons_zero, List.getElem?_cons_succ, List.set, Nat.zero_add, Nat.add_zero, Nat.le_refl, Nat.reduceAdd, Nat.reduceSub, Nat.reduceLeDiff, Int.reduceLT, Int.reduceLE, Int.reduceNeg, Int.reduceEq, true_and, and_true, true_or, or_true, not_true_eq_false, not_false_eq_true, false_implies, true_implies, implies_true, reduceIte, and_self, Int.reduceAdd, Int.reduceMul, Int.reduceSub, eq_self, Int.add_zero, Int.zero_add, String.reduceEq, Nat.zero_le, Option.some.injEq, Sum.inl.injEq, Sum.inr.injEq, reduceCtorEq, Int.reduceToNat, Option.toList_some, Option.toList_none, ac_cs, ac_c10, ac_c11, ac_c12, ac_c13, ac_c14, ac_c15, ac_c16, ac_c17, sc_E, sh_E, sc_I, sh_I, sc_II, sh_II, sc_III, sh_III, sc_R, sh_R, sc_RI, sh_RI, sc_RII, sh_RII, sc_RIII, sh_RIII, sc_RIIII, sh_RIIII, sc_RR, sh_RR, sc_RRI, sh_RRI, sc_RRR, sh_RRR, sc_RIR, sh_RIR, sc_RIRI, sh_RIRI, sc_RRII, sh_RRII, sc_RRIII, sh_RRIII, sc_RIIRR, sh_RIIRR, sc_RIIIRR, sh_RIIIRR, sc_RIIR, sh_RIIR, sc_RRIIR, sh_RRIIR, sc_RRIIIR, sh_RRIIIR, sc_RRIIIIR, sh_RRIIIIR, sc_RRIR, sh_RRIR]
  obtain ⟨hg, hs⟩ := hp
  obtain ⟨h1, h2, h3⟩ := id hg.1
  obtain ⟨r1, r2, r3, -⟩ := id hg.2.1
  have z1 : ∀ T, (gdS h d T).1 = 0 ∨ (gdS h d T).1 = 1 := fun T => by
    unfold gdS; split
    · split
      · exact Or.inr rfl
      · exact Or.inr rfl
    · exact Or.inl rfl
  have z2 : ∀ T, (goS h d T key).1 = 0 ∨ (goS h d T key).1 = 1 := fun T => by
    unfold goS; split
    · exact Or.inl rfl
    · exact Or.inr rfl
  have ts : tkS h d (rs h P) key = if h 707 P 0 = 0 then (if key = 4 then gdS h d (rs h P) else if key = 5 then (1, (upq (upq (rs h P).1 705 (if rul h d 4 < wr (h 705 P 0 + rul h d 5) then rul h d 4 else wr (h 705 P 0 + rul h d 5))) 706 (wr (h 706 P 0 + -1)), (rs h P).2)) else goS h d (rs h P) key) else (0, rs h P) := rfl
  refine ⟨h1, fun e => ⟨fun e4 => ⟨h1, ⟨hg, hs⟩, ?_⟩, fun e4 => ⟨fun e5 => ⟨h1, r1, ⟨r1, r2, r3⟩, ?_⟩, fun e5 => ⟨h1, ⟨⟨h1, h2, h3⟩, d, hg, hs⟩, ?_⟩⟩⟩, fun e => ?_⟩
  · rintro v g ⟨rfl, rfl⟩
    rw [ts, if_pos e, if_pos e4]
    simp only [z1, ac_ent, ldI, ldR, stI, stR, inc, cI, cJ, cN, bop, oAdd, oSub, oMul, oAnd, oOr, oXor, oShl, oShr, oUshr, oRem, oDiv, oMx, oMn, oI2l, oLcmp, oDup, oDup2, oDupX1, oPop, bIc, bI0, bNul, getI, getR, putI, putZ, putR, aLen, aldI, aldZ, aldJ, aldR, astI, astZ, astJ, astR, nwO, nwA, gsT, oObj, oCpy, oCln, oCst, rtI, rtZ, rtR, rtV, thr, call, callH, ac_hsel, ac_as, ac_rs, ac_cs, ac_rcv, List.map_cons, List.map_nil, List.length_cons, List.length_nil, List.replicate, List.append_nil, List.cons_append, List.nil_append, List.getElem?_cons_zero, List.getElem?_cons_succ, List.set, Nat.zero_add, Nat.add_zero, Nat.le_refl, Nat.reduceAdd, Nat.reduceSub, Nat.reduceLeDiff, Int.reduceLT, Int.reduceLE, Int.reduceNeg, Int.reduceEq, true_and, and_true, true_or, or_true, not_true_eq_false, not_false_eq_true, false_implies, true_implies, implies_true, reduceIte, and_self, Int.reduceAdd, Int.reduceMul, Int.reduceSub, eq_self, Int.add_zero, Int.zero_add, String.reduceEq, Nat.zero_le, Option.some.injEq, Sum.inl.injEq, Sum.inr.injEq, reduceCtorEq, Int.reduceToNat, Option.toList_some, Option.toList_none, ac_cs, ac_c10, ac_c11, ac_c12, ac_c13, ac_c14, ac_c15, ac_c16, ac_c17, sc_E, sh_E, sc_I, sh_I, sc_II, sh_II, sc_III, sh_III, sc_R, sh_R, sc_RI, sh_RI, sc_RII, sh_RII, sc_RIII, sh_RIII, sc_RIIII, sh_RIIII, sc_RR, sh_RR, sc_RRI, sh_RRI, sc_RRR, sh_RRR, sc_RIR, sh_RIR, sc_RIRI, sh_RIRI, sc_RRII, sh_RRII, sc_RRIII, sh_RRIII, sc_RIIRR, sh_RIIRR, sc_RIIIRR, sh_RIIIRR, sc_RIIR, sh_RIIR, sc_RRIIR, sh_RRIIR, sc_RRIIIR, sh_RRIIIR, sc_RRIIIIR, sh_RRIIIIR, sc_RRIR, sh_RRIR]
  · rintro v g ⟨rfl, rfl⟩
    simp only [r1, r2, r3, ac_ent, ldI, ldR, stI, stR, inc, cI, cJ, cN, bop, oAdd, oSub, oMul, oAnd, oOr, oXor, oShl, oShr, oUshr, oRem, oDiv, oMx, oMn, oI2l, oLcmp, oDup, oDup2, oDupX1, oPop, bIc, bI0, bNul, getI, getR, putI, putZ, putR, aLen, aldI, aldZ, aldJ, aldR, astI, astZ, astJ, astR, nwO, nwA, gsT, oObj, oCpy, oCln, oCst, rtI, rtZ, rtR, rtV, thr, call, callH, ac_hsel, ac_as, ac_rs, ac_cs, ac_rcv, List.map_cons, List.map_nil, List.length_cons, List.length_nil, List.replicate, List.append_nil, List.cons_append, List.nil_append, List.getElem?_cons_zero, List.getElem?_cons_succ, List.set, Nat.zero_add, Nat.add_zero, Nat.le_refl, Nat.reduceAdd, Nat.reduceSub, Nat.reduceLeDiff, Int.reduceLT, Int.reduceLE, Int.reduceNeg, Int.reduceEq, true_and, and_true, true_or, or_true, not_true_eq_false, not_false_eq_true, false_implies, true_implies, implies_true, reduceIte, and_self, Int.reduceAdd, Int.reduceMul, Int.reduceSub, eq_self, Int.add_zero, Int.zero_add, String.reduceEq, Nat.zero_le, Option.some.injEq, Sum.inl.injEq, Sum.inr.injEq, reduceCtorEq, Int.reduceToNat, Option.toList_some, Option.toList_none, ac_cs, ac_c10, ac_c11, ac_c12, ac_c13, ac_c14, ac_c15, ac_c16, ac_c17, sc_E, sh_E, sc_I, sh_I, sc_II, sh_II, sc_III, sh_III, sc_R, sh_R, sc_RI, sh_RI, sc_RII, sh_RII, sc_RIII, sh_RIII, sc_RIIII, sh_RIIII, sc_RR, sh_RR, sc_RRI, sh_RRI, sc_RRR, sh_RRR, sc_RIR, sh_RIR, sc_RIRI, sh_RIRI, sc_RRII, sh_RRII, sc_RRIII, sh_RRIII, sc_RIIRR, sh_RIIRR, sc_RIIIRR, sh_RIIIRR, sc_RIIR, sh_RIIR, sc_RRIIR, sh_RRIIR, sc_RRIIIR, sh_RRIIIR, sc_RRIIIIR, sh_RRIIIIR, sc_RRIR, sh_RRIR]
    rintro v g' ⟨rfl, rfl⟩
    rw [ts, if_pos e, if_neg e4, if_pos e5]
    simp only [ac_ent, ldI, ldR, stI, stR, inc, cI, cJ, cN, bop, oAdd, oSub, oMul, oAnd, oOr, oXor, oShl, oShr, oUshr, oRem, oDiv, oMx, oMn, oI2l, oLcmp, oDup, oDup2, oDupX1, oPop, bIc, bI0, bNul, getI, getR, putI, putZ, putR, aLen, aldI, aldZ, aldJ, aldR, astI, astZ, astJ, astR, nwO, nwA, gsT, oObj, oCpy, oCln, oCst, rtI, rtZ, rtR, rtV, thr, call, callH, ac_hsel, ac_as, ac_rs, ac_cs, ac_rcv, List.map_cons, List.map_nil, List.length_cons, List.length_nil, List.replicate, List.append_nil, List.cons_append, List.nil_append, List.getElem?_cons_zero, List.getElem?_cons_succ, List.set, Nat.zero_add, Nat.add_zero, Nat.le_refl, Nat.reduceAdd, Nat.reduceSub, Nat.reduceLeDiff, Int.reduceLT, Int.reduceLE, Int.reduceNeg, Int.reduceEq, true_and, and_true, true_or, or_true, not_true_eq_false, not_false_eq_true, false_implies, true_implies, implies_true, reduceIte, and_self, Int.reduceAdd, Int.reduceMul, Int.reduceSub, eq_self, Int.add_zero, Int.zero_add, String.reduceEq, Nat.zero_le, Option.some.injEq, Sum.inl.injEq, Sum.inr.injEq, reduceCtorEq, Int.reduceToNat, Option.toList_some, Option.toList_none, ac_cs, ac_c10, ac_c11, ac_c12, ac_c13, ac_c14, ac_c15, ac_c16, ac_c17, sc_E, sh_E, sc_I, sh_I, sc_II, sh_II, sc_III, sh_III, sc_R, sh_R, sc_RI, sh_RI, sc_RII, sh_RII, sc_RIII, sh_RIII, sc_RIIII, sh_RIIII, sc_RR, sh_RR, sc_RRI, sh_RRI, sc_RRR, sh_RRR, sc_RIR, sh_RIR, sc_RIRI, sh_RIRI, sc_RRII, sh_RRII, sc_RRIII, sh_RRIII, sc_RIIRR, sh_RIIRR, sc_RIIIRR, sh_RIIIRR, sc_RIIR, sh_RIIR, sc_RRIIR, sh_RRIIR, sc_RRIIIR, sh_RRIIIR, sc_RRIIIIR, sh_RRIIIIR, sc_RRIR, sh_RRIR]
    rw [rp_up0 (show 701 ≤ 705 by omega) (by omega)]
    simp only [h1, rp_up, rp_ast, rp_q, rp_k, rp_M, rp_rp, Nat.reduceLeDiff, Nat.reduceLT, Nat.reduceEqDiff, or_true, true_or, or_false, false_or, ne_eq, not_false_eq_true, up_k, ast_k, up_kf, ast_kf, ne_eq, Nat.reduceEqDiff, not_false_eq_true, ac_ent, ldI, ldR, stI, stR, inc, cI, cJ, cN, bop, oAdd, oSub, oMul, oAnd, oOr, oXor, oShl, oShr, oUshr, oRem, oDiv, oMx, oMn, oI2l, oLcmp, oDup, oDup2, oDupX1, oPop, bIc, bI0, bNul, getI, getR, putI, putZ, putR, aLen, aldI, aldZ, aldJ, aldR, astI, astZ, astJ, astR, nwO, nwA, gsT, oObj, oCpy, oCln, oCst, rtI, rtZ, rtR, rtV, thr, call, callH, ac_hsel, ac_as, ac_rs, ac_cs, ac_rcv, List.map_cons, List.map_nil, List.length_cons, List.length_nil, List.replicate, List.append_nil, List.cons_append, List.nil_append, List.getElem?_cons_zero, List.getElem?_cons_succ, List.set, Nat.zero_add, Nat.add_zero, Nat.le_refl, Nat.reduceAdd, Nat.reduceSub, Nat.reduceLeDiff, Int.reduceLT, Int.reduceLE, Int.reduceNeg, Int.reduceEq, true_and, and_true, true_or, or_true, not_true_eq_false, not_false_eq_true, false_implies, true_implies, implies_true, reduceIte, and_self, Int.reduceAdd, Int.reduceMul, Int.reduceSub, eq_self, Int.add_zero, Int.zero_add, String.reduceEq, Nat.zero_le, Option.some.injEq, Sum.inl.injEq, Sum.inr.injEq, reduceCtorEq, Int.reduceToNat, Option.toList_some, Option.toList_none, ac_cs, ac_c10, ac_c11, ac_c12, ac_c13, ac_c14, ac_c15, ac_c16, ac_c17, sc_E, sh_E, sc_I, sh_I, sc_II, sh_II, sc_III, sh_III, sc_R, sh_R, sc_RI, sh_RI, sc_RII, sh_RII, sc_RIII, sh_RIII, sc_RIIII, sh_RIIII, sc_RR, sh_RR, sc_RRI, sh_RRI, sc_RRR, sh_RRR, sc_RIR, sh_RIR, sc_RIRI, sh_RIRI, sc_RRII, sh_RRII, sc_RRIII, sh_RRIII, sc_RIIRR, sh_RIIRR, sc_RIIIRR, sh_RIIIRR, sc_RIIR, sh_RIIR, sc_RRIIR, sh_RRIIR, sc_RRIIIR, sh_RRIIIR, sc_RRIIIIR, sh_RRIIIIR, sc_RRIR, sh_RRIR]
    rfl
  · rintro v g hv
    obtain ⟨rfl, rfl⟩ := hv d hg hs
    rw [ts, if_pos e, if_neg e4, if_neg e5]
    simp only [z2, ac_ent, ldI, ldR, stI, stR, inc, cI, cJ, cN, bop, oAdd, oSub, oMul, oAnd, oOr, oXor, oShl, oShr, oUshr, oRem, oDiv, oMx, oMn, oI2l, oLcmp, oDup, oDup2, oDupX1, oPop, bIc, bI0, bNul, getI, getR, putI, putZ, putR, aLen, aldI, aldZ, aldJ, aldR, astI, astZ, astJ, astR, nwO, nwA, gsT, oObj, oCpy, oCln, oCst, rtI, rtZ, rtR, rtV, thr, call, callH, ac_hsel, ac_as, ac_rs, ac_cs, ac_rcv, List.map_cons, List.map_nil, List.length_cons, List.length_nil, List.replicate, List.append_nil, List.cons_append, List.nil_append, List.getElem?_cons_zero, List.getElem?_cons_succ, List.set, Nat.zero_add, Nat.add_zero, Nat.le_refl, Nat.reduceAdd, Nat.reduceSub, Nat.reduceLeDiff, Int.reduceLT, Int.reduceLE, Int.reduceNeg, Int.reduceEq, true_and, and_true, true_or, or_true, not_true_eq_false, not_false_eq_true, false_implies, true_implies, implies_true, reduceIte, and_self, Int.reduceAdd, Int.reduceMul, Int.reduceSub, eq_self, Int.add_zero, Int.zero_add, String.reduceEq, Nat.zero_le, Option.some.injEq, Sum.inl.injEq, Sum.inr.injEq, reduceCtorEq, Int.reduceToNat, Option.toList_some, Option.toList_none, ac_cs, ac_c10, ac_c11, ac_c12, ac_c13, ac_c14, ac_c15, ac_c16, ac_c17, sc_E, sh_E, sc_I, sh_I, sc_II, sh_II, sc_III, sh_III, sc_R, sh_R, sc_RI, sh_RI, sc_RII, sh_RII, sc_RIII, sh_RIII, sc_RIIII, sh_RIIII, sc_RR, sh_RR, sc_RRI, sh_RRI, sc_RRR, sh_RRR, sc_RIR, sh_RIR, sc_RIRI, sh_RIRI, sc_RRII, sh_RRII, sc_RRIII, sh_RRIII, sc_RIIRR, sh_RIIRR, sc_RIIIRR, sh_RIIIRR, sc_RIIR, sh_RIIR, sc_RRIIR, sh_RRIIR, sc_RRIIIR, sh_RRIIIR, sc_RRIIIIR, sh_RRIIIIR, sc_RRIR, sh_RRIR]
  · rw [ts, if_neg e]
    exact ⟨rfl, (rp_rs h P).symm⟩
theorem enS_rp {h : ac_H} {P d f : Int} {S T : (Nat → Int) × (Int → Int)} (hg : GMk h P d) (f0 : 0 ≤ f) (f1 : f < 3) : enS (rp h P S) d f T = enS h d f T := by
  have el : flr (rp h P S) d f = flr h d f := by simp only [flr, rp_up, rp_ast, rp_q, rp_k, rp_M, rp_rp, Nat.reduceLeDiff, Nat.reduceLT, Nat.reduceEqDiff, or_true, true_or, or_false, false_or, ne_eq, not_false_eq_true]
  have e3 := (hg.2.2.2.2.2 f f0 f1).2.2.2.1
  unfold enS
  rw [el]
  simp only [rp_up, rp_ast, rp_q, rp_k, rp_M, rp_rp, Nat.reduceLeDiff, Nat.reduceLT, Nat.reduceEqDiff, or_true, true_or, or_false, false_or, ne_eq, not_false_eq_true, rp_o e3]
theorem gdS_rp {h : ac_H} {P d : Int} {S T : (Nat → Int) × (Int → Int)} (hg : GMk h P d) (hT : POk h d T) : gdS (rp h P S) d T = gdS h d T := by
  have el : flr (rp h P S) d (T.1 703) = flr h d (T.1 703) := by simp only [flr, rp_up, rp_ast, rp_q, rp_k, rp_M, rp_rp, Nat.reduceLeDiff, Nat.reduceLT, Nat.reduceEqDiff, or_true, true_or, or_false, false_or, ne_eq, not_false_eq_true]
  unfold gdS
  rw [el]
  simp only [rp_up, rp_ast, rp_q, rp_k, rp_M, rp_rp, Nat.reduceLeDiff, Nat.reduceLT, Nat.reduceEqDiff, or_true, true_or, or_false, false_or, ne_eq, not_false_eq_true]
  by_cases e : T.1 704 = h 401 (flr h d (T.1 703)) 0
  · rw [if_pos e, if_pos e]
    by_cases e2 : 3 ≤ T.1 703 + 1
    · rw [if_pos e2, if_pos e2]
    · rw [if_neg e2, if_neg e2, enS_rp hg (by have := hT.1; omega) (by omega)]
  · rw [if_neg e, if_neg e]
theorem goS_rp {h : ac_H} {P d r : Int} {S T : (Nat → Int) × (Int → Int)} (hg : GMk h P d) (hT : POk h d T) : goS (rp h P S) d T r = goS h d T r := by
  have el : flr (rp h P S) d (T.1 703) = flr h d (T.1 703) := by simp only [flr, rp_up, rp_ast, rp_q, rp_k, rp_M, rp_rp, Nat.reduceLeDiff, Nat.reduceLT, Nat.reduceEqDiff, or_true, true_or, or_false, false_or, ne_eq, not_false_eq_true]
  have e3 := (hg.2.2.2.2.2 _ hT.1 hT.2.1).2.2.1
  unfold goS
  rw [el]
  simp only [rp_up, rp_ast, rp_q, rp_k, rp_M, rp_rp, Nat.reduceLeDiff, Nat.reduceLT, Nat.reduceEqDiff, or_true, true_or, or_false, false_or, ne_eq, not_false_eq_true, rp_o e3]
theorem tkS_rp {h : ac_H} {P d key : Int} {S T : (Nat → Int) × (Int → Int)} (hg : GMk h P d) (hT : POk h d T) : tkS (rp h P S) d T key = tkS h d T key := by
  have er : ∀ f, rul (rp h P S) d f = rul h d f := fun f => by simp only [rul, rp_up, rp_ast, rp_q, rp_k, rp_M, rp_rp, Nat.reduceLeDiff, Nat.reduceLT, Nat.reduceEqDiff, or_true, true_or, or_false, false_or, ne_eq, not_false_eq_true]; rw [rp_o hg.2.2.1]
  unfold tkS
  rw [gdS_rp hg hT, goS_rp hg hT, er, er]
theorem PO_en {h : ac_H} {P d f : Int} {T : (Nat → Int) × (Int → Int)} (hg : GMk h P d) (f0 : 0 ≤ f) (f1 : f < 3) : POk h d (enS h d f T) := by
  have l := (hg.2.2.2.2.2 f f0 f1).2.1
  simp only [POk, enS, upq, Nat.reduceEqDiff, if_true, if_false]
  exact ⟨f0, f1, trivial, l.2.1, l.2.2.1⟩
theorem PO_fg {h : ac_H} {d : Int} {T : (Nat → Int) × (Int → Int)} (hT : POk h d T) : POk h d (fgS T) := by
  have e : ∀ k, k ≠ 705 → k ≠ 706 → k ≠ 707 → (fgS T).1 k = T.1 k := fun k h1 h2 h3 => by
    show (if _ then _ else _ : Nat → Int) k = _
    split
    · simp only [upq]; rw [if_neg h2, if_neg h1]
    · simp only [upq]; rw [if_neg h3, if_neg h2, if_neg h1]
  unfold POk
  rw [e 703 (by omega) (by omega) (by omega), e 702 (by omega) (by omega) (by omega), e 704 (by omega) (by omega) (by omega)]
  exact hT
theorem PO_tt {h : ac_H} {d : Int} {T : (Nat → Int) × (Int → Int)} (hT : POk h d T) : POk h d (ttS T) := by
  unfold ttS
  split
  · exact hT
  · simp only [POk, upq, Nat.reduceEqDiff, if_false]; exact hT
theorem PO_go {h : ac_H} {d r : Int} {T : (Nat → Int) × (Int → Int)} (hT : POk h d T) : POk h d (goS h d T r).2 := by
  unfold goS
  split
  · exact hT
  · rename_i q
    have hr := (bhd_r (f := h 10 (h 402 (flr h d (T.1 703)) 0)) (d := r) hT.2.2.2.1 hT.2.2.2.2).resolve_left q
    have h1 : POk h d (upq T.1 704 (bhd (h 10 (h 402 (flr h d (T.1 703)) 0)) (T.1 704) r), T.2) := by
      simp only [POk, upq, Nat.reduceEqDiff, if_false, if_true]
      exact ⟨hT.1, hT.2.1, hT.2.2.1, hr⟩
    dsimp only
    split
    · exact PO_fg h1
    · exact PO_tt (PO_fg h1)
theorem PO_tk {h : ac_H} {P d key : Int} {T : (Nat → Int) × (Int → Int)} (hg : GMk h P d) (hT : POk h d T) : POk h d (tkS h d T key).2 := by
  unfold tkS
  split
  · split
    · unfold gdS
      split
      · split
        · simp only [POk, upq, Nat.reduceEqDiff, if_false]; exact hT
        · rename_i q
          exact PO_en hg (by have := hT.1; omega) (by omega)
      · exact hT
    · split
      · simp only [POk, upq, Nat.reduceEqDiff, if_false]; exact hT
      · exact PO_go hT
  · exact hT
/-- the game after n keys; 0: it stopped -/
def plS (h : ac_H) (d : Int) (K : Int → Int) (S : (Nat → Int) × (Int → Int)) : Nat → Int × ((Nat → Int) × (Int → Int))
  | 0 => (1, S)
  | n + 1 => if (plS h d K S n).1 = 0 then plS h d K S n else if (tkS h d (plS h d K S n).2 (K n)).1 = 0 then (0, (tkS h d (plS h d K S n).2 (K n)).2) else (1, (upq (tkS h d (plS h d K S n).2 (K n)).2.1 708 (wr ((tkS h d (plS h d K S n).2 (K n)).2.1 708 + 1)), (tkS h d (plS h d K S n).2 (K n)).2.2))
theorem plS_abs {h : ac_H} {d : Int} {K : Int → Int} {S : (Nat → Int) × (Int → Int)} {n : Nat} (h0 : (plS h d K S n).1 = 0) : ∀ m, plS h d K S (n + m) = plS h d K S n
  | 0 => rfl
  | m + 1 => by
    have h1 := plS_abs h0 m
    show plS h d K S (n + m + 1) = _
    rw [plS, h1, if_pos h0]
def plI (h : ac_H) (d : Int) (S : (Nat → Int) × (Int → Int)) : (Nat → Int) × (Int → Int) := enS h d 0 (upq (upq (upq (upq S.1 705 (rul h d 4)) 706 0) 707 0) 708 0, S.2)
def spX6_play : ac_Sp := sc_RR (fun P r h => h 0 r 0 = 27 ∧ GMk h P (h 803 r 0) ∧ h 0 (h 804 r 0) 0 = 10 ∧ 0 ≤ h 1 (h 804 r 0) 0 ∧ h 1 (h 804 r 0) 0 ≤ 60 ∧ h 804 r 0 ≠ h 700 P 0) (fun P r h v h' => v = none ∧ h' = rp h P (plS h (h 803 r 0) (h 10 (h 804 r 0)) (plI h (h 803 r 0) (rs h P)) (h 1 (h 804 r 0) 0).toNat).2) (fun _ _ _ _ _ => False)
def ivX6_play (P r : Int) (h : ac_H) : Nat → Nat → ac_S := fun j m => match j with
  | 0 => fun L S g k nn => m = 1000 ∧ ent0 [some (.inr (.inl P)), some (.inr (.inl r)), none] h L S g k nn
  | 1 => fun L S g k nn => ∃ (i : Nat), (i : Int) ≤ h 1 (h 804 r 0) 0 ∧ m = 60 - i ∧ (plS h (h 803 r 0) (h 10 (h 804 r 0)) (plI h (h 803 r 0) (rs h P)) i).1 = 1 ∧ POk h (h 803 r 0) (plS h (h 803 r 0) (h 10 (h 804 r 0)) (plI h (h 803 r 0) (rs h P)) i).2 ∧ nrm h P (plS h (h 803 r 0) (h 10 (h 804 r 0)) (plI h (h 803 r 0) (rs h P)) i).2 ∧
      L = [some (.inr (.inl P)), some (.inr (.inl r)), some (.inl i)] ∧ S = [] ∧ g = rp h P (plS h (h 803 r 0) (h 10 (h 804 r 0)) (plI h (h 803 r 0) (rs h P)) i).2 ∧ k = 0 ∧ nn = 0
  | _ => fun _ _ _ _ _ => False
set_option maxRecDepth 100000 in
set_option maxHeartbeats 4000000 in
theorem mtX6_play {G : ac_G} {l : Launch} : ac_Met G l yX6_play mX6_play 4 95 0 0 spX6_play := by
  refine ac_meth (pcs := pcX6_play) (B := fun P X J j => vcX6_play spX2_rule spX6_enter spX6_take P X J j) (by decide) rfl rfl rfl (fun P X J hJ j => sdX6_play mtX2_rule mtX6_enter mtX6_take P X J hJ j) (hp_RR (by decide)) fun As h hp => ?_
  obtain ⟨P, r, rfl, hp⟩ := sh_RR_inv hp
  obtain ⟨r1, hg, r2, r3, r4, r5⟩ := hp
  obtain ⟨h1, h2, h3⟩ := id hg.1
  obtain ⟨u1, u2, u3, -⟩ := id hg.2.1
  have nP : h 700 P 0 ≠ P := fun e => by rw [e] at h2; omega
  refine ⟨ivX6_play P r h, 1000, ⟨rfl, rfl, rfl, rfl, rfl, rfl⟩, fun j m L S g k nn hI => ?_⟩
  match j, hI with
  | 0, hI =>
    obtain ⟨hm, rfl, rfl, rfl, rfl, rfl⟩ := hI
    simp only [spX6_play, vcX6_play, mX6_play, spX2_rule, spX6_enter, spX6_take, ac_ent, ldI, ldR, stI, stR, inc, cI, cJ, cN, bop, oAdd, oSub, oMul, oAnd, oOr, oXor, oShl, oShr, oUshr, oRem, oDiv, oMx, oMn, oI2l, oLcmp, oDup, oDup2, oDupX1, oPop, bIc, bI0, bNul, getI, getR, putI, putZ, putR, aLen, aldI, aldZ, aldJ, aldR, astI, astZ, astJ, astR, nwO, nwA, gsT, oObj, oCpy, oCln, oCst, rtI, rtZ, rtR, rtV, thr, call, callH, ac_hsel, ac_as, ac_rs, ac_cs, ac_rcv, List.map_cons, List.map_nil, List.length_cons, List.length_nil, List.replicate, List.append_nil, List.cons_append, List.nil_append, List.getElem?_cons_zero, List.getElem?_cons_succ, List.set, Nat.zero_add, Nat.add_zero, Nat.le_refl, Nat.reduceAdd, Nat.reduceSub, Nat.reduceLeDiff, Int.reduceLT, Int.reduceLE, Int.reduceNeg, Int.reduceEq, true_and, and_true, true_or, or_true, not_true_eq_false, not_false_eq_true, false_implies, true_implies, implies_true, reduceIte, and_self, Int.reduceAdd, Int.reduceMul, Int.reduceSub, eq_self, Int.add_zero, Int.zero_add, String.reduceEq, Nat.zero_le, Option.some.injEq, Sum.inl.injEq, Sum.inr.injEq, reduceCtorEq, Int.reduceToNat, Option.toList_some, Option.toList_none, ac_cs, ac_c10, ac_c11, ac_c12, ac_c13, ac_c14, ac_c15, ac_c16, ac_c17, sc_E, sh_E, sc_I, sh_I, sc_II, sh_II, sc_III, sh_III, sc_R, sh_R, sc_RI, sh_RI, sc_RII, sh_RII, sc_RIII, sh_RIII, sc_RIIII, sh_RIIII, sc_RR, sh_RR, sc_RRI, sh_RRI, sc_RRR, sh_RRR, sc_RIR, sh_RIR, sc_RIRI, sh_RIRI, sc_RRII, sh_RRII, sc_RRIII, sh_RRIII, sc_RIIRR, sh_RIIRR, sc_RIIIRR, sh_RIIIRR, sc_RIIR, sh_RIIR, sc_RRIIR, sh_RRIIR, sc_RRIIIR, sh_RRIIIR, sc_RRIIIIR, sh_RRIIIIR, sc_RRIR, sh_RRIR, r1, u1, u2, u3]
    rintro v h' ⟨rfl, rfl⟩
    simp only [ac_ent, ldI, ldR, stI, stR, inc, cI, cJ, cN, bop, oAdd, oSub, oMul, oAnd, oOr, oXor, oShl, oShr, oUshr, oRem, oDiv, oMx, oMn, oI2l, oLcmp, oDup, oDup2, oDupX1, oPop, bIc, bI0, bNul, getI, getR, putI, putZ, putR, aLen, aldI, aldZ, aldJ, aldR, astI, astZ, astJ, astR, nwO, nwA, gsT, oObj, oCpy, oCln, oCst, rtI, rtZ, rtR, rtV, thr, call, callH, ac_hsel, ac_as, ac_rs, ac_cs, ac_rcv, List.map_cons, List.map_nil, List.length_cons, List.length_nil, List.replicate, List.append_nil, List.cons_append, List.nil_append, List.getElem?_cons_zero, List.getElem?_cons_succ, List.set, Nat.zero_add, Nat.add_zero, Nat.le_refl, Nat.reduceAdd, Nat.reduceSub, Nat.reduceLeDiff, Int.reduceLT, Int.reduceLE, Int.reduceNeg, Int.reduceEq, true_and, and_true, true_or, or_true, not_true_eq_false, not_false_eq_true, false_implies, true_implies, implies_true, reduceIte, and_self, Int.reduceAdd, Int.reduceMul, Int.reduceSub, eq_self, Int.add_zero, Int.zero_add, String.reduceEq, Nat.zero_le, Option.some.injEq, Sum.inl.injEq, Sum.inr.injEq, reduceCtorEq, Int.reduceToNat, Option.toList_some, Option.toList_none, ac_cs, ac_c10, ac_c11, ac_c12, ac_c13, ac_c14, ac_c15, ac_c16, ac_c17, sc_E, sh_E, sc_I, sh_I, sc_II, sh_II, sc_III, sh_III, sc_R, sh_R, sc_RI, sh_RI, sc_RII, sh_RII, sc_RIII, sh_RIII, sc_RIIII, sh_RIIII, sc_RR, sh_RR, sc_RRI, sh_RRI, sc_RRR, sh_RRR, sc_RIR, sh_RIR, sc_RIRI, sh_RIRI, sc_RRII, sh_RRII, sc_RRIII, sh_RRIII, sc_RIIRR, sh_RIIRR, sc_RIIIRR, sh_RIIIRR, sc_RIIR, sh_RIIR, sc_RRIIR, sh_RRIIR, sc_RRIIIR, sh_RRIIIR, sc_RRIIIIR, sh_RRIIIIR, sc_RRIR, sh_RRIR]
    rw [rp_up0 (show 701 ≤ 705 by omega) (by omega), rp_up (by omega) (by omega), rp_up (by omega) (by omega), rp_up (by omega) (by omega)]
    have hg2 : GMk (rp h' P (upq (upq (upq (upq (rs h' P).1 705 (rul h' (h' 803 r 0) 4)) 706 0) 707 0) 708 0, (rs h' P).2)) P (h' 803 r 0) := GMk_rp hg
    have n1 : nrm h' P (upq (upq (upq (upq (rs h' P).1 705 (rul h' (h' 803 r 0) 4)) 706 0) 707 0) 708 0, (rs h' P).2) := nr_up (nr_up (f := (rs h' P).2) (nr_up (f := (rs h' P).2) (nr_up (f := (rs h' P).2) (nr_rs h' P) (by omega) (by omega)) (by omega) (by omega)) (by omega) (by omega)) (by omega) (by omega)
    simp only [h1, r1, rp_up, rp_ast, rp_q, rp_k, rp_M, rp_rp, Nat.reduceLeDiff, Nat.reduceLT, Nat.reduceEqDiff, or_true, true_or, or_false, false_or, ne_eq, not_false_eq_true, ac_ent, ldI, ldR, stI, stR, inc, cI, cJ, cN, bop, oAdd, oSub, oMul, oAnd, oOr, oXor, oShl, oShr, oUshr, oRem, oDiv, oMx, oMn, oI2l, oLcmp, oDup, oDup2, oDupX1, oPop, bIc, bI0, bNul, getI, getR, putI, putZ, putR, aLen, aldI, aldZ, aldJ, aldR, astI, astZ, astJ, astR, nwO, nwA, gsT, oObj, oCpy, oCln, oCst, rtI, rtZ, rtR, rtV, thr, call, callH, ac_hsel, ac_as, ac_rs, ac_cs, ac_rcv, List.map_cons, List.map_nil, List.length_cons, List.length_nil, List.replicate, List.append_nil, List.cons_append, List.nil_append, List.getElem?_cons_zero, List.getElem?_cons_succ, List.set, Nat.zero_add, Nat.add_zero, Nat.le_refl, Nat.reduceAdd, Nat.reduceSub, Nat.reduceLeDiff, Int.reduceLT, Int.reduceLE, Int.reduceNeg, Int.reduceEq, true_and, and_true, true_or, or_true, not_true_eq_false, not_false_eq_true, false_implies, true_implies, implies_true, reduceIte, and_self, Int.reduceAdd, Int.reduceMul, Int.reduceSub, eq_self, Int.add_zero, Int.zero_add, String.reduceEq, Nat.zero_le, Option.some.injEq, Sum.inl.injEq, Sum.inr.injEq, reduceCtorEq, Int.reduceToNat, Option.toList_some, Option.toList_none, ac_cs, ac_c10, ac_c11, ac_c12, ac_c13, ac_c14, ac_c15, ac_c16, ac_c17, sc_E, sh_E, sc_I, sh_I, sc_II, sh_II, sc_III, sh_III, sc_R, sh_R, sc_RI, sh_RI, sc_RII, sh_RII, sc_RIII, sh_RIII, sc_RIIII, sh_RIIII, sc_RR, sh_RR, sc_RRI, sh_RRI, sc_RRR, sh_RRR, sc_RIR, sh_RIR, sc_RIRI, sh_RIRI, sc_RRII, sh_RRII, sc_RRIII, sh_RRIII, sc_RIIRR, sh_RIIRR, sc_RIIIRR, sh_RIIIRR, sc_RIIR, sh_RIIR, sc_RRIIR, sh_RRIIR, sc_RRIIIR, sh_RRIIIR, sc_RRIIIIR, sh_RRIIIIR, sc_RRIR, sh_RRIR]
    refine ⟨hg2, ?_⟩
    rintro v g ⟨rfl, rfl⟩
    have er : h' 10 (h' 302 (h' 803 r 0) 0) 4 = rul h' (h' 803 r 0) 4 := rfl
    rw [er, rs_rp n1 nP, enS_rp hg (by omega) (by omega)]
    refine ⟨60, by omega, 0, by omega, by omega, rfl, PO_en hg (by omega) (by omega), nr_en n1, rfl, rfl, rfl, rfl, rfl⟩
  | 1, hI =>
    obtain ⟨i, i1, hm, p1, p2, p3, rfl, rfl, rfl, rfl, rfl⟩ := hI
    simp only [spX6_play, vcX6_play, mX6_play, spX2_rule, spX6_enter, spX6_take, ac_ent, ldI, ldR, stI, stR, inc, cI, cJ, cN, bop, oAdd, oSub, oMul, oAnd, oOr, oXor, oShl, oShr, oUshr, oRem, oDiv, oMx, oMn, oI2l, oLcmp, oDup, oDup2, oDupX1, oPop, bIc, bI0, bNul, getI, getR, putI, putZ, putR, aLen, aldI, aldZ, aldJ, aldR, astI, astZ, astJ, astR, nwO, nwA, gsT, oObj, oCpy, oCln, oCst, rtI, rtZ, rtR, rtV, thr, call, callH, ac_hsel, ac_as, ac_rs, ac_cs, ac_rcv, List.map_cons, List.map_nil, List.length_cons, List.length_nil, List.replicate, List.append_nil, List.cons_append, List.nil_append, List.getElem?_cons_zero, List.getElem?_cons_succ, List.set, Nat.zero_add, Nat.add_zero, Nat.le_refl, Nat.reduceAdd, Nat.reduceSub, Nat.reduceLeDiff, Int.reduceLT, Int.reduceLE, Int.reduceNeg, Int.reduceEq, true_and, and_true, true_or, or_true, not_true_eq_false, not_false_eq_true, false_implies, true_implies, implies_true, reduceIte, and_self, Int.reduceAdd, Int.reduceMul, Int.reduceSub, eq_self, Int.add_zero, Int.zero_add, String.reduceEq, Nat.zero_le, Option.some.injEq, Sum.inl.injEq, Sum.inr.injEq, reduceCtorEq, Int.reduceToNat, Option.toList_some, Option.toList_none, ac_cs, ac_c10, ac_c11, ac_c12, ac_c13, ac_c14, ac_c15, ac_c16, ac_c17, sc_E, sh_E, sc_I, sh_I, sc_II, sh_II, sc_III, sh_III, sc_R, sh_R, sc_RI, sh_RI, sc_RII, sh_RII, sc_RIII, sh_RIII, sc_RIIII, sh_RIIII, sc_RR, sh_RR, sc_RRI, sh_RRI, sc_RRR, sh_RRR, sc_RIR, sh_RIR, sc_RIRI, sh_RIRI, sc_RRII, sh_RRII, sc_RRIII, sh_RRIII, sc_RIIRR, sh_RIIRR, sc_RIIIRR, sh_RIIIRR, sc_RIIR, sh_RIIR, sc_RRIIR, sh_RRIIR, sc_RRIIIR, sh_RRIIIR, sc_RRIIIIR, sh_RRIIIIR, sc_RRIR, sh_RRIR, rp_up, rp_ast, rp_q, rp_k, rp_M, rp_rp, Nat.reduceLeDiff, Nat.reduceLT, Nat.reduceEqDiff, or_true, true_or, or_false, false_or, ne_eq, not_false_eq_true, r1, r2]
    refine ⟨fun q => by rw [show (h 1 (h 804 r 0) 0).toNat = i by omega], fun q => ⟨⟨by omega, by omega⟩, h1, ?_⟩⟩
    rw [rs_rp p3 nP, rp_o r5, tkS_rp hg p2]
    have hp1 : ¬ (plS h (h 803 r 0) (h 10 (h 804 r 0)) (plI h (h 803 r 0) (rs h P)) i).1 = 0 := by omega
    have hps : plS h (h 803 r 0) (h 10 (h 804 r 0)) (plI h (h 803 r 0) (rs h P)) (i + 1) = if (tkS h (h 803 r 0) (plS h (h 803 r 0) (h 10 (h 804 r 0)) (plI h (h 803 r 0) (rs h P)) i).2 (h 10 (h 804 r 0) i)).1 = 0 then (0, (tkS h (h 803 r 0) (plS h (h 803 r 0) (h 10 (h 804 r 0)) (plI h (h 803 r 0) (rs h P)) i).2 (h 10 (h 804 r 0) i)).2) else (1, (upq (tkS h (h 803 r 0) (plS h (h 803 r 0) (h 10 (h 804 r 0)) (plI h (h 803 r 0) (rs h P)) i).2 (h 10 (h 804 r 0) i)).2.1 708 (wr ((tkS h (h 803 r 0) (plS h (h 803 r 0) (h 10 (h 804 r 0)) (plI h (h 803 r 0) (rs h P)) i).2 (h 10 (h 804 r 0) i)).2.1 708 + 1)), (tkS h (h 803 r 0) (plS h (h 803 r 0) (h 10 (h 804 r 0)) (plI h (h 803 r 0) (rs h P)) i).2 (h 10 (h 804 r 0) i)).2.2)) := by
      rw [plS, if_neg hp1]
    refine ⟨⟨GMk_rp hg, ?_⟩, ?_⟩
    · have el : ∀ f, flr (rp h P (plS h (h 803 r 0) (h 10 (h 804 r 0)) (plI h (h 803 r 0) (rs h P)) i).2) (h 803 r 0) f = flr h (h 803 r 0) f := fun f => by simp only [flr, rp_up, rp_ast, rp_q, rp_k, rp_M, rp_rp, Nat.reduceLeDiff, Nat.reduceLT, Nat.reduceEqDiff, or_true, true_or, or_false, false_or, ne_eq, not_false_eq_true]
      unfold POk
      rw [el]
      exact p2
    · rintro v g ⟨rfl, rfl⟩
      have n2 := nr_tk (g := h) (d := h 803 r 0) (key := h 10 (h 804 r 0) i) p3
      have o2 := PO_tk (key := h 10 (h 804 r 0) i) hg p2
      generalize hT : tkS h (h 803 r 0) (plS h (h 803 r 0) (h 10 (h 804 r 0)) (plI h (h 803 r 0) (rs h P)) i).2 (h 10 (h 804 r 0) i) = T at hps n2 o2 ⊢
      simp only [h1, rp_up, rp_ast, rp_q, rp_k, rp_M, rp_rp, Nat.reduceLeDiff, Nat.reduceLT, Nat.reduceEqDiff, or_true, true_or, or_false, false_or, ne_eq, not_false_eq_true, ac_ent, ldI, ldR, stI, stR, inc, cI, cJ, cN, bop, oAdd, oSub, oMul, oAnd, oOr, oXor, oShl, oShr, oUshr, oRem, oDiv, oMx, oMn, oI2l, oLcmp, oDup, oDup2, oDupX1, oPop, bIc, bI0, bNul, getI, getR, putI, putZ, putR, aLen, aldI, aldZ, aldJ, aldR, astI, astZ, astJ, astR, nwO, nwA, gsT, oObj, oCpy, oCln, oCst, rtI, rtZ, rtR, rtV, thr, call, callH, ac_hsel, ac_as, ac_rs, ac_cs, ac_rcv, List.map_cons, List.map_nil, List.length_cons, List.length_nil, List.replicate, List.append_nil, List.cons_append, List.nil_append, List.getElem?_cons_zero, List.getElem?_cons_succ, List.set, Nat.zero_add, Nat.add_zero, Nat.le_refl, Nat.reduceAdd, Nat.reduceSub, Nat.reduceLeDiff, Int.reduceLT, Int.reduceLE, Int.reduceNeg, Int.reduceEq, true_and, and_true, true_or, or_true, not_true_eq_false, not_false_eq_true, false_implies, true_implies, implies_true, reduceIte, and_self, Int.reduceAdd, Int.reduceMul, Int.reduceSub, eq_self, Int.add_zero, Int.zero_add, String.reduceEq, Nat.zero_le, Option.some.injEq, Sum.inl.injEq, Sum.inr.injEq, reduceCtorEq, Int.reduceToNat, Option.toList_some, Option.toList_none, ac_cs, ac_c10, ac_c11, ac_c12, ac_c13, ac_c14, ac_c15, ac_c16, ac_c17, sc_E, sh_E, sc_I, sh_I, sc_II, sh_II, sc_III, sh_III, sc_R, sh_R, sc_RI, sh_RI, sc_RII, sh_RII, sc_RIII, sh_RIII, sc_RIIII, sh_RIIII, sc_RR, sh_RR, sc_RRI, sh_RRI, sc_RRR, sh_RRR, sc_RIR, sh_RIR, sc_RIRI, sh_RIRI, sc_RRII, sh_RRII, sc_RRIII, sh_RRIII, sc_RIIRR, sh_RIIRR, sc_RIIIRR, sh_RIIIRR, sc_RIIR, sh_RIIR, sc_RRIIR, sh_RRIIR, sc_RRIIIR, sh_RRIIIR, sc_RRIIIIR, sh_RRIIIIR, sc_RRIR, sh_RRIR]
      refine ⟨fun e => ?_, fun e => ?_⟩
      · rw [if_pos e] at hps
        obtain ⟨k, hk⟩ : ∃ k, (h 1 (h 804 r 0) 0).toNat = i + 1 + k := ⟨(h 1 (h 804 r 0) 0).toNat - (i + 1), by omega⟩
        rw [hk, plS_abs (by rw [hps]), hps]
      · rw [if_neg e] at hps
        simp (disch := omega) only [wr_of (z := (i : Int) + 1)]
        refine ⟨60 - (i + 1), by omega, i + 1, by omega, by omega, by rw [hps], ?_, ?_, rfl, rfl, by rw [hps], rfl, rfl⟩
        · rw [hps]
          simp only [POk, upq, Nat.reduceEqDiff, if_false]
          exact o2
        · rw [hps]
          exact nr_up n2 (by omega) (by omega)
  | j + 2, hI => exact hI.elim
