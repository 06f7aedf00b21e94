/-! ===== a floor grown ===== -/
theorem ag_tr {h1 h2 h3 : ac_H} (a : ag h1 h2) (b : ag h2 h3) (hz : ∀ x, h3 0 x 0 ≠ 0 → h2 0 x 0 ≠ 0) : ag h1 h3 := fun k x j q => by rw [a k x j (hz x q), b k x j q]
theorem ag_up {h g : ac_H} (q : ag h g) {k : Nat} {a j v : Int} (hk : k ≠ 0) : ag (up h k a j v) (up g k a j v) := by
  intro k' a' j' h0
  rw [up_k (Ne.symm hk)] at h0
  have := q k' a' j' h0
  simp only [up]
  rw [this]
theorem ag_ast {h g : ac_H} (q : ag h g) {a : Int} {f : Int → Int} : ag (ast h a f) (ast g a f) := by
  intro k' a' j' h0
  rw [ast_k (by decide)] at h0
  have := q k' a' j' h0
  simp only [ast]
  rw [this]
theorem ag_r {h g : ac_H} (q : ag h g) {k : Nat} {a j : Int} (h0 : g 0 a 0 ≠ 0) : h k a j = g k a j := q k a j h0
theorem ag_rf2 {h g : ac_H} (q : ag h g) {k : Nat} {a : Int} (h0 : g 0 a 0 ≠ 0) : h k a = g k a := by funext j; exact q k a j h0
theorem FLk_ag {h g : ac_H} {a : Int} (q : ag h g) (hf : FLk g a) : FLk h a ∧ (∀ k j, h k a j = g k a j) ∧ h 10 (g 402 a 0) = g 10 (g 402 a 0) ∧ h 10 (g 403 a 0) = g 10 (g 403 a 0) ∧ h 10 (g 405 a 0) = g 10 (g 405 a 0) := by
  obtain ⟨f1, f2, f3, f4, f5, f6, f7, f8, f9, f10, f11, fr⟩ := id hf
  have ea : ∀ k j, h k a j = g k a j := fun k j => q k a j (by omega)
  refine ⟨?_, ea, ag_rf2 q (by omega), ag_rf2 q (by omega), ag_rf2 q (by omega)⟩
  unfold FLk
  simp only [ea]
  rw [q 0 (g 402 a 0) 0 (by omega), q 1 (g 402 a 0) 0 (by omega), q 0 (g 403 a 0) 0 (by omega), q 1 (g 403 a 0) 0 (by omega), q 0 (g 405 a 0) 0 (by omega), q 1 (g 405 a 0) 0 (by omega), q 0 (g 406 a 0) 0 (by omega), q 1 (g 406 a 0) 0 (by omega)]
  exact hf
theorem DRk_ag {h g : ac_H} {a : Int} (q : ag h g) (hd : DRk g a) : DRk h a ∧ h 200 a 0 = g 200 a 0 := by
  have e := q 200 a 0 (by rw [hd.1]; decide)
  refine ⟨⟨by rw [q 0 a 0 (by rw [hd.1]; decide)]; exact hd.1, by rw [e]; exact hd.2⟩, e⟩
theorem ag_gl {h g : ac_H} {a d : Int} {n : Nat} (q : ag h g) (hf : FLk g a) (hd : DRk g d) : ag (glH h a d n) (glH g a d n) := by
  obtain ⟨-, e1, e2, -, -⟩ := FLk_ag q hf
  obtain ⟨-, e4⟩ := DRk_ag q hd
  unfold glH
  rw [e1, e2, e4]
  exact ag_up (ag_ast q) (by decide)
theorem ag_gm {h g : ac_H} {a d s : Int} {n : Nat} (q : ag h g) (hf : FLk g a) (hd : DRk g d) : ag (gmH h a d s n) (gmH g a d s n) := by
  obtain ⟨-, e1, -, e2, -⟩ := FLk_ag q hf
  obtain ⟨-, e4⟩ := DRk_ag q hd
  unfold gmH
  rw [e1, e1, e2, e4]
  exact ag_up (ag_ast q) (by decide)
theorem ag_gt {h g : ac_H} {a d : Int} {n : Nat} (q : ag h g) (hf : FLk g a) (hd : DRk g d) : ag (gtH h a d n) (gtH g a d n) := by
  obtain ⟨-, e1, -, -, -⟩ := FLk_ag q hf
  obtain ⟨-, e4⟩ := DRk_ag q hd
  unfold gtH
  rw [e1, e4]
  exact ag_up (ag_up q (by decide)) (by decide)
theorem FLk_gw {h : ac_H} {a d : Int} (hf : FLk h a) : FLk (gwH h a d) a := FLk_200 (FLk_ast hf)
theorem FLk_gl {h : ac_H} {a d : Int} {n : Nat} (hf : FLk h a) : FLk (glH h a d n) a := FLk_200 (FLk_ast hf)
theorem FLk_gm {h : ac_H} {a d s : Int} {n : Nat} (hf : FLk h a) : FLk (gmH h a d s n) a := FLk_200 (FLk_ast hf)
theorem FLk_gt {h : ac_H} {a d : Int} {n : Nat} (hf : FLk h a) : FLk (gtH h a d n) a := FLk_200 (FLk_404 hf)
theorem DRk_gw {h : ac_H} {a d : Int} (hd : DRk h d) : DRk (gwH h a d) d := by
  refine ⟨by simp only [gwH, up_k, ast_k, up_kf, ast_kf, ne_eq, Nat.reduceEqDiff, not_false_eq_true]; exact hd.1, by simp only [gwH, up_self]; exact xk_r hd.2 _⟩
theorem DRk_gl {h : ac_H} {a d : Int} {n : Nat} (hd : DRk h d) : DRk (glH h a d n) d := by
  refine ⟨by simp only [glH, up_k, ast_k, up_kf, ast_kf, ne_eq, Nat.reduceEqDiff, not_false_eq_true]; exact hd.1, by simp only [glH, up_self]; exact xk_r hd.2 _⟩
theorem DRk_gm {h : ac_H} {a d s : Int} {n : Nat} (hd : DRk h d) : DRk (gmH h a d s n) d := by
  refine ⟨by simp only [gmH, up_k, ast_k, up_kf, ast_kf, ne_eq, Nat.reduceEqDiff, not_false_eq_true]; exact hd.1, by simp only [gmH, up_self]; exact xk_r hd.2 _⟩
theorem DRk_gt {h : ac_H} {a d : Int} {n : Nat} (hd : DRk h d) : DRk (gtH h a d n) d := by
  refine ⟨by simp only [gtH, up_k, ast_k, up_kf, ast_kf, ne_eq, Nat.reduceEqDiff, not_false_eq_true]; exact hd.1, by simp only [gtH, up_self]; exact xk_r hd.2 _⟩
/-- what a dungeon's rules say -/
def rul (h : ac_H) (n i : Int) : Int := h 10 (h 302 n 0) i
def RUk (h : ac_H) (n : Int) : Prop := h 0 n 0 = 22 ∧ h 0 (h 302 n 0) 0 = 10 ∧ h 1 (h 302 n 0) 0 = 6 ∧ ((0 ≤ rul h n 0 ∧ rul h n 0 ≤ 20) ∧ (0 ≤ rul h n 1 ∧ rul h n 1 ≤ 20) ∧ (1 ≤ rul h n 2 ∧ rul h n 2 ≤ 9) ∧ (0 ≤ rul h n 3 ∧ rul h n 3 ≤ 20) ∧ (1 ≤ rul h n 4 ∧ rul h n 4 ≤ 50) ∧ (0 ≤ rul h n 5 ∧ rul h n 5 ≤ 9))
/-- g has the dungeon n as h has it -/
def RUs (g h : ac_H) (n : Int) : Prop := g 0 n 0 = 22 ∧ g 0 (g 302 n 0) 0 = 10 ∧ g 1 (g 302 n 0) 0 = 6 ∧ ∀ i, rul g n i = rul h n i
theorem RUs_ag {h' g h : ac_H} {n : Int} (q : ag h' g) (hr : RUs g h n) : RUs h' h n := by
  obtain ⟨a, b, c, d⟩ := hr
  have e := q 302 n 0 (by omega)
  refine ⟨by rw [q 0 n 0 (by omega)]; exact a, by rw [e, q 0 _ 0 (by omega)]; exact b, by rw [e, q 1 _ 0 (by omega)]; exact c, fun i => ?_⟩
  rw [← d i, rul, rul, e, q 10 _ i (by omega)]
theorem RUs_gw {g h : ac_H} {n a d : Int} (hr : RUs g h n) (hn : g 302 n 0 ≠ g 402 a 0) : RUs (gwH g a d) h n := by
  simp only [RUs, rul, gwH, up_k, ast_k, up_kf, ast_kf, ne_eq, Nat.reduceEqDiff, not_false_eq_true, ast_a hn] at hr ⊢
  exact hr
theorem RUs_gl {g h : ac_H} {n a d : Int} {m : Nat} (hr : RUs g h n) (hn : g 302 n 0 ≠ g 402 a 0) : RUs (glH g a d m) h n := by
  simp only [RUs, rul, glH, up_k, ast_k, up_kf, ast_kf, ne_eq, Nat.reduceEqDiff, not_false_eq_true, ast_a hn] at hr ⊢
  exact hr
theorem RUs_gm {g h : ac_H} {n a d s : Int} {m : Nat} (hr : RUs g h n) (hn : g 302 n 0 ≠ g 403 a 0) : RUs (gmH g a d s m) h n := by
  simp only [RUs, rul, gmH, up_k, ast_k, up_kf, ast_kf, ne_eq, Nat.reduceEqDiff, not_false_eq_true, ast_a hn] at hr ⊢
  exact hr
/-- all of a floor but its ways' lengths and its stairs -/
def gwl (h : ac_H) (a d n : Int) : ac_H := glH (gwH h a d) a d (rul h n 0).toNat
def gwm (h : ac_H) (a d n : Int) : ac_H := gmH (gwl h a d n) a d (rul h n 2) (rul h n 1).toNat
def gR (h : ac_H) (a d n : Int) : ac_H := gtH (gwm h a d n) a d (rul h n 3).toNat
theorem gR_k {h : ac_H} {a d n : Int} {k : Nat} {x j : Int} (h1 : k ≠ 10) (h2 : k ≠ 200) (h3 : k ≠ 404) : gR h a d n k x j = h k x j := by
  unfold gR gwm gwl
  rw [gtH_k h3 h2, gmH_k h1 h2, glH_k h1 h2]
  simp only [gwH]
  rw [up_k h2, ast_k h1]
def spX3_grow : ac_Sp := sc_RRR (fun a d n h => FLk h a ∧ DRk h d ∧ RUk h n ∧ h 302 n 0 ≠ h 402 a 0 ∧ h 302 n 0 ≠ h 403 a 0) (fun a d n h v h' => v = none ∧ ∃ far, WD (gR h a d n 10 (h 402 a 0)) (h 400 a 0) far ∧ ag h' (up (ast (gR h a d n) (h 405 a 0) far) 401 a 0 (fmx far 15))) (fun _ _ _ _ _ _ => False)
set_option maxRecDepth 100000 in
set_option maxHeartbeats 4000000 in
theorem mtX3_grow {G : ac_G} {l : Launch} : ac_Met G l yX3_grow mX3_grow 3 77 1 16 spX3_grow := by
  refine ac_meth1 (pcs := pcX3_grow) (B := fun P X J j => vcX3_grow spX3_growWays spX2_rule spX3_growLoops spX3_growMonsters spX3_growTreasures spX3_measureBySearch spX3_farthestRoom P X J j) (by decide) rfl rfl rfl (fun P X J hJ j => sdX3_grow mtX3_growWays mtX2_rule mtX3_growLoops mtX3_growMonsters mtX3_growTreasures mtX3_measureBySearch mtX3_farthestRoom P X J hJ j) (hp_RRR (by decide)) fun As h hp => ?_
  obtain ⟨a, d, n, rfl, hp⟩ := sh_RRR_inv hp
  simp only [spX3_grow, vcX3_grow, mX3_grow, spX3_growWays, spX2_rule, spX3_growLoops, spX3_growMonsters, spX3_growTreasures, spX3_measureBySearch, spX3_farthestRoom, sc_RRR, sh_RRR, ac_ent, ldI, ldR, stI, stR, inc, cI, cJ, cN, bop, oAdd, oSub, oMul, oAnd, oOr, oXor, oShl, oShr, oUshr, oRem, oDiv, oMx, oMn, oI2l, oLcmp, oDup, oDup2, oDupX1, oPop, bIc, bI0, bNul, getI, getR, putI, putZ, putR, aLen, aldI, aldZ, aldJ, aldR, astI, astZ, astJ, astR, nwO, nwA, gsT, oObj, oCpy, oCln, oCst, rtI, rtZ, rtR, rtV, thr, call, callH, ac_hsel, ac_as, ac_rs, ac_cs, ac_rcv, List.map_cons, List.map_nil, List.length_cons, List.length_nil, List.replicate, List.append_nil, List.cons_append, List.nil_append, List.getElem?_cons_zero, List.getElem?_cons_succ, List.set, Nat.zero_add, Nat.add_zero, Nat.le_refl, Nat.reduceAdd, Nat.reduceSub, Nat.reduceLeDiff, Int.reduceLT, Int.reduceLE, Int.reduceNeg, Int.reduceEq, true_and, and_true, true_or, or_true, not_true_eq_false, not_false_eq_true, false_implies, true_implies, implies_true, reduceIte, and_self, Int.reduceAdd, Int.reduceMul, Int.reduceSub, eq_self, Int.add_zero, Int.zero_add, String.reduceEq, Nat.zero_le, Option.some.injEq, Sum.inl.injEq, Sum.inr.injEq, reduceCtorEq, Int.reduceToNat, Option.toList_some, Option.toList_none, ac_cs, ac_c10, ac_c11, ac_c12, ac_c13, ac_c14, ac_c15, ac_c16, ac_c17, sc_E, sh_E, sc_I, sh_I, sc_II, sh_II, sc_III, sh_III, sc_R, sh_R, sc_RI, sh_RI, sc_RII, sh_RII, sc_RIII, sh_RIII, sc_RIIII, sh_RIIII, sc_RR, sh_RR, sc_RRI, sh_RRI, sc_RRR, sh_RRR, sc_RIR, sh_RIR, sc_RIRI, sh_RIRI, sc_RRII, sh_RRII, sc_RRIII, sh_RRIII, sc_RIIRR, sh_RIIRR, sc_RIIIRR, sh_RIIIRR, sc_RIIR, sh_RIIR, sc_RRIIR, sh_RRIIR, sc_RRIIIR, sh_RRIIIR, sc_RRIIIIR, sh_RRIIIIR, sc_RRIR, sh_RRIR]
  obtain ⟨hf, hd, hr, n1, n2⟩ := hp
  obtain ⟨r1, r2, r3, ⟨r40, r41⟩, ⟨r50, r51⟩, ⟨r60, r61⟩, ⟨r70, r71⟩, r80, r81⟩ := hr
  have hf1 : FLk (gwH h a d) a := FLk_gw hf
  have hd1 : DRk (gwH h a d) d := DRk_gw hd
  have hs1 : RUs (gwH h a d) h n := RUs_gw ⟨r1, r2, r3, fun i => rfl⟩ n1
  have hf2 : FLk (gwl h a d n) a := FLk_gl hf1
  have hd2 : DRk (gwl h a d n) d := DRk_gl hd1
  have hs2 : RUs (gwl h a d n) h n := RUs_gl hs1 (by simp only [gwH, up_k, ast_k, up_kf, ast_kf, ne_eq, Nat.reduceEqDiff, not_false_eq_true]; exact n1)
  have hf3 : FLk (gwm h a d n) a := FLk_gm hf2
  have hd3 : DRk (gwm h a d n) d := DRk_gm hd2
  have hs3 : RUs (gwm h a d n) h n := RUs_gm hs2 (by simp only [gwl, glH, gwH, up_k, ast_k, up_kf, ast_kf, ne_eq, Nat.reduceEqDiff, not_false_eq_true]; exact n2)
  have hf4 : FLk (gR h a d n) a := FLk_gt hf3
  refine ⟨hf.1, ⟨hf, hd⟩, ?_⟩
  rintro v h1 ⟨rfl, q1⟩
  obtain ⟨k1, k2, k3, k4⟩ := RUs_ag q1 hs1
  obtain ⟨j1, -⟩ := FLk_ag q1 hf1
  obtain ⟨l1, -⟩ := DRk_ag q1 hd1
  have k40 : h1 10 (h1 302 n 0) 0 = rul h n 0 := k4 0
  simp only [k1, k2, k3, k40, ac_ent, ldI, ldR, stI, stR, inc, cI, cJ, cN, bop, oAdd, oSub, oMul, oAnd, oOr, oXor, oShl, oShr, oUshr, oRem, oDiv, oMx, oMn, oI2l, oLcmp, oDup, oDup2, oDupX1, oPop, bIc, bI0, bNul, getI, getR, putI, putZ, putR, aLen, aldI, aldZ, aldJ, aldR, astI, astZ, astJ, astR, nwO, nwA, gsT, oObj, oCpy, oCln, oCst, rtI, rtZ, rtR, rtV, thr, call, callH, ac_hsel, ac_as, ac_rs, ac_cs, ac_rcv, List.map_cons, List.map_nil, List.length_cons, List.length_nil, List.replicate, List.append_nil, List.cons_append, List.nil_append, List.getElem?_cons_zero, List.getElem?_cons_succ, List.set, Nat.zero_add, Nat.add_zero, Nat.le_refl, Nat.reduceAdd, Nat.reduceSub, Nat.reduceLeDiff, Int.reduceLT, Int.reduceLE, Int.reduceNeg, Int.reduceEq, true_and, and_true, true_or, or_true, not_true_eq_false, not_false_eq_true, false_implies, true_implies, implies_true, reduceIte, and_self, Int.reduceAdd, Int.reduceMul, Int.reduceSub, eq_self, Int.add_zero, Int.zero_add, String.reduceEq, Nat.zero_le, Option.some.injEq, Sum.inl.injEq, Sum.inr.injEq, reduceCtorEq, Int.reduceToNat, Option.toList_some, Option.toList_none, ac_cs, ac_c10, ac_c11, ac_c12, ac_c13, ac_c14, ac_c15, ac_c16, ac_c17, sc_E, sh_E, sc_I, sh_I, sc_II, sh_II, sc_III, sh_III, sc_R, sh_R, sc_RI, sh_RI, sc_RII, sh_RII, sc_RIII, sh_RIII, sc_RIIII, sh_RIIII, sc_RR, sh_RR, sc_RRI, sh_RRI, sc_RRR, sh_RRR, sc_RIR, sh_RIR, sc_RIRI, sh_RIRI, sc_RRII, sh_RRII, sc_RRIII, sh_RRIII, sc_RIIRR, sh_RIIRR, sc_RIIIRR, sh_RIIIRR, sc_RIIR, sh_RIIR, sc_RRIIR, sh_RRIIR, sc_RRIIIR, sh_RRIIIR, sc_RRIIIIR, sh_RRIIIIR, sc_RRIR, sh_RRIR]
  rintro v h' ⟨rfl, rfl⟩
  simp only [j1.1, j1, l1, ac_ent, ldI, ldR, stI, stR, inc, cI, cJ, cN, bop, oAdd, oSub, oMul, oAnd, oOr, oXor, oShl, oShr, oUshr, oRem, oDiv, oMx, oMn, oI2l, oLcmp, oDup, oDup2, oDupX1, oPop, bIc, bI0, bNul, getI, getR, putI, putZ, putR, aLen, aldI, aldZ, aldJ, aldR, astI, astZ, astJ, astR, nwO, nwA, gsT, oObj, oCpy, oCln, oCst, rtI, rtZ, rtR, rtV, thr, call, callH, ac_hsel, ac_as, ac_rs, ac_cs, ac_rcv, List.map_cons, List.map_nil, List.length_cons, List.length_nil, List.replicate, List.append_nil, List.cons_append, List.nil_append, List.getElem?_cons_zero, List.getElem?_cons_succ, List.set, Nat.zero_add, Nat.add_zero, Nat.le_refl, Nat.reduceAdd, Nat.reduceSub, Nat.reduceLeDiff, Int.reduceLT, Int.reduceLE, Int.reduceNeg, Int.reduceEq, true_and, and_true, true_or, or_true, not_true_eq_false, not_false_eq_true, false_implies, true_implies, implies_true, reduceIte, and_self, Int.reduceAdd, Int.reduceMul, Int.reduceSub, eq_self, Int.add_zero, Int.zero_add, String.reduceEq, Nat.zero_le, Option.some.injEq, Sum.inl.injEq, Sum.inr.injEq, reduceCtorEq, Int.reduceToNat, Option.toList_some, Option.toList_none, ac_cs, ac_c10, ac_c11, ac_c12, ac_c13, ac_c14, ac_c15, ac_c16, ac_c17, sc_E, sh_E, sc_I, sh_I, sc_II, sh_II, sc_III, sh_III, sc_R, sh_R, sc_RI, sh_RI, sc_RII, sh_RII, sc_RIII, sh_RIII, sc_RIIII, sh_RIIII, sc_RR, sh_RR, sc_RRI, sh_RRI, sc_RRR, sh_RRR, sc_RIR, sh_RIR, sc_RIRI, sh_RIRI, sc_RRII, sh_RRII, sc_RRIII, sh_RRIII, sc_RIIRR, sh_RIIRR, sc_RIIIRR, sh_RIIIRR, sc_RIIR, sh_RIIR, sc_RRIIR, sh_RRIIR, sc_RRIIIR, sh_RRIIIR, sc_RRIIIIR, sh_RRIIIIR, sc_RRIR, sh_RRIR]
  refine ⟨by omega, ?_⟩
  rintro v h2 ⟨rfl, rfl⟩
  have q2 : ag (glH h' a d (rul h n 0).toNat) (gwl h a d n) := ag_gl q1 hf1 hd1
  obtain ⟨k1, k2, k3, k4⟩ := RUs_ag q2 hs2
  obtain ⟨j1, -⟩ := FLk_ag q2 hf2
  obtain ⟨l1, -⟩ := DRk_ag q2 hd2
  generalize glH h' a d (rul h n 0).toNat = h2 at *
  have k41 : h2 10 (h2 302 n 0) 1 = rul h n 1 := k4 1
  have k42 : h2 10 (h2 302 n 0) 2 = rul h n 2 := k4 2
  simp only [k1, k2, k3, k41, ac_ent, ldI, ldR, stI, stR, inc, cI, cJ, cN, bop, oAdd, oSub, oMul, oAnd, oOr, oXor, oShl, oShr, oUshr, oRem, oDiv, oMx, oMn, oI2l, oLcmp, oDup, oDup2, oDupX1, oPop, bIc, bI0, bNul, getI, getR, putI, putZ, putR, aLen, aldI, aldZ, aldJ, aldR, astI, astZ, astJ, astR, nwO, nwA, gsT, oObj, oCpy, oCln, oCst, rtI, rtZ, rtR, rtV, thr, call, callH, ac_hsel, ac_as, ac_rs, ac_cs, ac_rcv, List.map_cons, List.map_nil, List.length_cons, List.length_nil, List.replicate, List.append_nil, List.cons_append, List.nil_append, List.getElem?_cons_zero, List.getElem?_cons_succ, List.set, Nat.zero_add, Nat.add_zero, Nat.le_refl, Nat.reduceAdd, Nat.reduceSub, Nat.reduceLeDiff, Int.reduceLT, Int.reduceLE, Int.reduceNeg, Int.reduceEq, true_and, and_true, true_or, or_true, not_true_eq_false, not_false_eq_true, false_implies, true_implies, implies_true, reduceIte, and_self, Int.reduceAdd, Int.reduceMul, Int.reduceSub, eq_self, Int.add_zero, Int.zero_add, String.reduceEq, Nat.zero_le, Option.some.injEq, Sum.inl.injEq, Sum.inr.injEq, reduceCtorEq, Int.reduceToNat, Option.toList_some, Option.toList_none, ac_cs, ac_c10, ac_c11, ac_c12, ac_c13, ac_c14, ac_c15, ac_c16, ac_c17, sc_E, sh_E, sc_I, sh_I, sc_II, sh_II, sc_III, sh_III, sc_R, sh_R, sc_RI, sh_RI, sc_RII, sh_RII, sc_RIII, sh_RIII, sc_RIIII, sh_RIIII, sc_RR, sh_RR, sc_RRI, sh_RRI, sc_RRR, sh_RRR, sc_RIR, sh_RIR, sc_RIRI, sh_RIRI, sc_RRII, sh_RRII, sc_RRIII, sh_RRIII, sc_RIIRR, sh_RIIRR, sc_RIIIRR, sh_RIIIRR, sc_RIIR, sh_RIIR, sc_RRIIR, sh_RRIIR, sc_RRIIIR, sh_RRIIIR, sc_RRIIIIR, sh_RRIIIIR, sc_RRIR, sh_RRIR]
  rintro v h' ⟨rfl, rfl⟩
  simp only [k1, k2, k3, k42, ac_ent, ldI, ldR, stI, stR, inc, cI, cJ, cN, bop, oAdd, oSub, oMul, oAnd, oOr, oXor, oShl, oShr, oUshr, oRem, oDiv, oMx, oMn, oI2l, oLcmp, oDup, oDup2, oDupX1, oPop, bIc, bI0, bNul, getI, getR, putI, putZ, putR, aLen, aldI, aldZ, aldJ, aldR, astI, astZ, astJ, astR, nwO, nwA, gsT, oObj, oCpy, oCln, oCst, rtI, rtZ, rtR, rtV, thr, call, callH, ac_hsel, ac_as, ac_rs, ac_cs, ac_rcv, List.map_cons, List.map_nil, List.length_cons, List.length_nil, List.replicate, List.append_nil, List.cons_append, List.nil_append, List.getElem?_cons_zero, List.getElem?_cons_succ, List.set, Nat.zero_add, Nat.add_zero, Nat.le_refl, Nat.reduceAdd, Nat.reduceSub, Nat.reduceLeDiff, Int.reduceLT, Int.reduceLE, Int.reduceNeg, Int.reduceEq, true_and, and_true, true_or, or_true, not_true_eq_false, not_false_eq_true, false_implies, true_implies, implies_true, reduceIte, and_self, Int.reduceAdd, Int.reduceMul, Int.reduceSub, eq_self, Int.add_zero, Int.zero_add, String.reduceEq, Nat.zero_le, Option.some.injEq, Sum.inl.injEq, Sum.inr.injEq, reduceCtorEq, Int.reduceToNat, Option.toList_some, Option.toList_none, ac_cs, ac_c10, ac_c11, ac_c12, ac_c13, ac_c14, ac_c15, ac_c16, ac_c17, sc_E, sh_E, sc_I, sh_I, sc_II, sh_II, sc_III, sh_III, sc_R, sh_R, sc_RI, sh_RI, sc_RII, sh_RII, sc_RIII, sh_RIII, sc_RIIII, sh_RIIII, sc_RR, sh_RR, sc_RRI, sh_RRI, sc_RRR, sh_RRR, sc_RIR, sh_RIR, sc_RIRI, sh_RIRI, sc_RRII, sh_RRII, sc_RRIII, sh_RRIII, sc_RIIRR, sh_RIIRR, sc_RIIIRR, sh_RIIIRR, sc_RIIR, sh_RIIR, sc_RRIIR, sh_RRIIR, sc_RRIIIR, sh_RRIIIR, sc_RRIIIIR, sh_RRIIIIR, sc_RRIR, sh_RRIR]
  rintro v h' ⟨rfl, rfl⟩
  simp only [j1.1, j1, l1, ac_ent, ldI, ldR, stI, stR, inc, cI, cJ, cN, bop, oAdd, oSub, oMul, oAnd, oOr, oXor, oShl, oShr, oUshr, oRem, oDiv, oMx, oMn, oI2l, oLcmp, oDup, oDup2, oDupX1, oPop, bIc, bI0, bNul, getI, getR, putI, putZ, putR, aLen, aldI, aldZ, aldJ, aldR, astI, astZ, astJ, astR, nwO, nwA, gsT, oObj, oCpy, oCln, oCst, rtI, rtZ, rtR, rtV, thr, call, callH, ac_hsel, ac_as, ac_rs, ac_cs, ac_rcv, List.map_cons, List.map_nil, List.length_cons, List.length_nil, List.replicate, List.append_nil, List.cons_append, List.nil_append, List.getElem?_cons_zero, List.getElem?_cons_succ, List.set, Nat.zero_add, Nat.add_zero, Nat.le_refl, Nat.reduceAdd, Nat.reduceSub, Nat.reduceLeDiff, Int.reduceLT, Int.reduceLE, Int.reduceNeg, Int.reduceEq, true_and, and_true, true_or, or_true, not_true_eq_false, not_false_eq_true, false_implies, true_implies, implies_true, reduceIte, and_self, Int.reduceAdd, Int.reduceMul, Int.reduceSub, eq_self, Int.add_zero, Int.zero_add, String.reduceEq, Nat.zero_le, Option.some.injEq, Sum.inl.injEq, Sum.inr.injEq, reduceCtorEq, Int.reduceToNat, Option.toList_some, Option.toList_none, ac_cs, ac_c10, ac_c11, ac_c12, ac_c13, ac_c14, ac_c15, ac_c16, ac_c17, sc_E, sh_E, sc_I, sh_I, sc_II, sh_II, sc_III, sh_III, sc_R, sh_R, sc_RI, sh_RI, sc_RII, sh_RII, sc_RIII, sh_RIII, sc_RIIII, sh_RIIII, sc_RR, sh_RR, sc_RRI, sh_RRI, sc_RRR, sh_RRR, sc_RIR, sh_RIR, sc_RIRI, sh_RIRI, sc_RRII, sh_RRII, sc_RRIII, sh_RRIII, sc_RIIRR, sh_RIIRR, sc_RIIIRR, sh_RIIIRR, sc_RIIR, sh_RIIR, sc_RRIIR, sh_RRIIR, sc_RRIIIR, sh_RRIIIR, sc_RRIIIIR, sh_RRIIIIR, sc_RRIR, sh_RRIR]
  refine ⟨⟨by omega, by omega, by omega⟩, ?_⟩
  rintro v h3 ⟨rfl, rfl⟩
  have q3 : ag (gmH h' a d (rul h n 2) (rul h n 1).toNat) (gwm h a d n) := ag_gm q2 hf2 hd2
  obtain ⟨k1, k2, k3, k4⟩ := RUs_ag q3 hs3
  obtain ⟨j1, -⟩ := FLk_ag q3 hf3
  obtain ⟨l1, -⟩ := DRk_ag q3 hd3
  generalize gmH h' a d (rul h n 2) (rul h n 1).toNat = h3 at *
  have k43 : h3 10 (h3 302 n 0) 3 = rul h n 3 := k4 3
  simp only [k1, k2, k3, k43, ac_ent, ldI, ldR, stI, stR, inc, cI, cJ, cN, bop, oAdd, oSub, oMul, oAnd, oOr, oXor, oShl, oShr, oUshr, oRem, oDiv, oMx, oMn, oI2l, oLcmp, oDup, oDup2, oDupX1, oPop, bIc, bI0, bNul, getI, getR, putI, putZ, putR, aLen, aldI, aldZ, aldJ, aldR, astI, astZ, astJ, astR, nwO, nwA, gsT, oObj, oCpy, oCln, oCst, rtI, rtZ, rtR, rtV, thr, call, callH, ac_hsel, ac_as, ac_rs, ac_cs, ac_rcv, List.map_cons, List.map_nil, List.length_cons, List.length_nil, List.replicate, List.append_nil, List.cons_append, List.nil_append, List.getElem?_cons_zero, List.getElem?_cons_succ, List.set, Nat.zero_add, Nat.add_zero, Nat.le_refl, Nat.reduceAdd, Nat.reduceSub, Nat.reduceLeDiff, Int.reduceLT, Int.reduceLE, Int.reduceNeg, Int.reduceEq, true_and, and_true, true_or, or_true, not_true_eq_false, not_false_eq_true, false_implies, true_implies, implies_true, reduceIte, and_self, Int.reduceAdd, Int.reduceMul, Int.reduceSub, eq_self, Int.add_zero, Int.zero_add, String.reduceEq, Nat.zero_le, Option.some.injEq, Sum.inl.injEq, Sum.inr.injEq, reduceCtorEq, Int.reduceToNat, Option.toList_some, Option.toList_none, ac_cs, ac_c10, ac_c11, ac_c12, ac_c13, ac_c14, ac_c15, ac_c16, ac_c17, sc_E, sh_E, sc_I, sh_I, sc_II, sh_II, sc_III, sh_III, sc_R, sh_R, sc_RI, sh_RI, sc_RII, sh_RII, sc_RIII, sh_RIII, sc_RIIII, sh_RIIII, sc_RR, sh_RR, sc_RRI, sh_RRI, sc_RRR, sh_RRR, sc_RIR, sh_RIR, sc_RIRI, sh_RIRI, sc_RRII, sh_RRII, sc_RRIII, sh_RRIII, sc_RIIRR, sh_RIIRR, sc_RIIIRR, sh_RIIIRR, sc_RIIR, sh_RIIR, sc_RRIIR, sh_RRIIR, sc_RRIIIR, sh_RRIIIR, sc_RRIIIIR, sh_RRIIIIR, sc_RRIR, sh_RRIR]
  rintro v h' ⟨rfl, rfl⟩
  simp only [j1.1, j1, l1, ac_ent, ldI, ldR, stI, stR, inc, cI, cJ, cN, bop, oAdd, oSub, oMul, oAnd, oOr, oXor, oShl, oShr, oUshr, oRem, oDiv, oMx, oMn, oI2l, oLcmp, oDup, oDup2, oDupX1, oPop, bIc, bI0, bNul, getI, getR, putI, putZ, putR, aLen, aldI, aldZ, aldJ, aldR, astI, astZ, astJ, astR, nwO, nwA, gsT, oObj, oCpy, oCln, oCst, rtI, rtZ, rtR, rtV, thr, call, callH, ac_hsel, ac_as, ac_rs, ac_cs, ac_rcv, List.map_cons, List.map_nil, List.length_cons, List.length_nil, List.replicate, List.append_nil, List.cons_append, List.nil_append, List.getElem?_cons_zero, List.getElem?_cons_succ, List.set, Nat.zero_add, Nat.add_zero, Nat.le_refl, Nat.reduceAdd, Nat.reduceSub, Nat.reduceLeDiff, Int.reduceLT, Int.reduceLE, Int.reduceNeg, Int.reduceEq, true_and, and_true, true_or, or_true, not_true_eq_false, not_false_eq_true, false_implies, true_implies, implies_true, reduceIte, and_self, Int.reduceAdd, Int.reduceMul, Int.reduceSub, eq_self, Int.add_zero, Int.zero_add, String.reduceEq, Nat.zero_le, Option.some.injEq, Sum.inl.injEq, Sum.inr.injEq, reduceCtorEq, Int.reduceToNat, Option.toList_some, Option.toList_none, ac_cs, ac_c10, ac_c11, ac_c12, ac_c13, ac_c14, ac_c15, ac_c16, ac_c17, sc_E, sh_E, sc_I, sh_I, sc_II, sh_II, sc_III, sh_III, sc_R, sh_R, sc_RI, sh_RI, sc_RII, sh_RII, sc_RIII, sh_RIII, sc_RIIII, sh_RIIII, sc_RR, sh_RR, sc_RRI, sh_RRI, sc_RRR, sh_RRR, sc_RIR, sh_RIR, sc_RIRI, sh_RIRI, sc_RRII, sh_RRII, sc_RRIII, sh_RRIII, sc_RIIRR, sh_RIIRR, sc_RIIIRR, sh_RIIIRR, sc_RIIR, sh_RIIR, sc_RRIIR, sh_RRIIR, sc_RRIIIR, sh_RRIIIR, sc_RRIIIIR, sh_RRIIIIR, sc_RRIR, sh_RRIR]
  refine ⟨by omega, ?_⟩
  rintro v h4 ⟨rfl, rfl⟩
  have q4 : ag (gtH h' a d (rul h n 3).toNat) (gR h a d n) := ag_gt q3 hf3 hd3
  obtain ⟨j1, j2, j3, -⟩ := FLk_ag q4 hf4
  generalize gtH h' a d (rul h n 3).toNat = h4 at *
  have g402 : gR h a d n 402 a 0 = h 402 a 0 := gR_k (by decide) (by decide) (by decide)
  have g405 : gR h a d n 405 a 0 = h 405 a 0 := gR_k (by decide) (by decide) (by decide)
  have g400 : gR h a d n 400 a 0 = h 400 a 0 := gR_k (by decide) (by decide) (by decide)
  simp only [j1.1, j1, ac_ent, ldI, ldR, stI, stR, inc, cI, cJ, cN, bop, oAdd, oSub, oMul, oAnd, oOr, oXor, oShl, oShr, oUshr, oRem, oDiv, oMx, oMn, oI2l, oLcmp, oDup, oDup2, oDupX1, oPop, bIc, bI0, bNul, getI, getR, putI, putZ, putR, aLen, aldI, aldZ, aldJ, aldR, astI, astZ, astJ, astR, nwO, nwA, gsT, oObj, oCpy, oCln, oCst, rtI, rtZ, rtR, rtV, thr, call, callH, ac_hsel, ac_as, ac_rs, ac_cs, ac_rcv, List.map_cons, List.map_nil, List.length_cons, List.length_nil, List.replicate, List.append_nil, List.cons_append, List.nil_append, List.getElem?_cons_zero, List.getElem?_cons_succ, List.set, Nat.zero_add, Nat.add_zero, Nat.le_refl, Nat.reduceAdd, Nat.reduceSub, Nat.reduceLeDiff, Int.reduceLT, Int.reduceLE, Int.reduceNeg, Int.reduceEq, true_and, and_true, true_or, or_true, not_true_eq_false, not_false_eq_true, false_implies, true_implies, implies_true, reduceIte, and_self, Int.reduceAdd, Int.reduceMul, Int.reduceSub, eq_self, Int.add_zero, Int.zero_add, String.reduceEq, Nat.zero_le, Option.some.injEq, Sum.inl.injEq, Sum.inr.injEq, reduceCtorEq, Int.reduceToNat, Option.toList_some, Option.toList_none, ac_cs, ac_c10, ac_c11, ac_c12, ac_c13, ac_c14, ac_c15, ac_c16, ac_c17, sc_E, sh_E, sc_I, sh_I, sc_II, sh_II, sc_III, sh_III, sc_R, sh_R, sc_RI, sh_RI, sc_RII, sh_RII, sc_RIII, sh_RIII, sc_RIIII, sh_RIIII, sc_RR, sh_RR, sc_RRI, sh_RRI, sc_RRR, sh_RRR, sc_RIR, sh_RIR, sc_RIRI, sh_RIRI, sc_RRII, sh_RRII, sc_RRIII, sh_RRIII, sc_RIIRR, sh_RIIRR, sc_RIIIRR, sh_RIIIRR, sc_RIIR, sh_RIIR, sc_RRIIR, sh_RRIIR, sc_RRIIIR, sh_RRIIIR, sc_RRIIIIR, sh_RRIIIIR, sc_RRIR, sh_RRIR]
  rintro v h5 ⟨rfl, far, w1, w2⟩
  rw [j2, j2, g402, g400] at w1
  rw [g402] at j3
  rw [j3] at w1
  rw [j2, g405] at w2
  have w3 : ag h5 (ast (gR h a d n) (h 405 a 0) far) := ag_tr w2 (ag_ast q4) (fun x hx => by
    rw [ast_k (by decide)] at hx ⊢
    rw [q4 0 x 0 hx]; exact hx)
  have hf5 : FLk (ast (gR h a d n) (h 405 a 0) far) a := FLk_ast hf4
  obtain ⟨j5, j6, -, -, j7⟩ := FLk_ag w3 hf5
  rw [ast_k (by decide), g405, ast_10'] at j7
  have j8 : h5 405 a 0 = h 405 a 0 := by rw [j6, ast_k (by decide), g405]
  have j9 : h5 400 a 0 = h 400 a 0 := by rw [j6, ast_k (by decide), g400]
  have j10 : FPk (h5 10 (h5 405 a 0)) (h5 400 a 0) := by rw [j9, j8, j7]; exact FPk_WD w1
  simp only [j5.1, j5, j10, ac_ent, ldI, ldR, stI, stR, inc, cI, cJ, cN, bop, oAdd, oSub, oMul, oAnd, oOr, oXor, oShl, oShr, oUshr, oRem, oDiv, oMx, oMn, oI2l, oLcmp, oDup, oDup2, oDupX1, oPop, bIc, bI0, bNul, getI, getR, putI, putZ, putR, aLen, aldI, aldZ, aldJ, aldR, astI, astZ, astJ, astR, nwO, nwA, gsT, oObj, oCpy, oCln, oCst, rtI, rtZ, rtR, rtV, thr, call, callH, ac_hsel, ac_as, ac_rs, ac_cs, ac_rcv, List.map_cons, List.map_nil, List.length_cons, List.length_nil, List.replicate, List.append_nil, List.cons_append, List.nil_append, List.getElem?_cons_zero, List.getElem?_cons_succ, List.set, Nat.zero_add, Nat.add_zero, Nat.le_refl, Nat.reduceAdd, Nat.reduceSub, Nat.reduceLeDiff, Int.reduceLT, Int.reduceLE, Int.reduceNeg, Int.reduceEq, true_and, and_true, true_or, or_true, not_true_eq_false, not_false_eq_true, false_implies, true_implies, implies_true, reduceIte, and_self, Int.reduceAdd, Int.reduceMul, Int.reduceSub, eq_self, Int.add_zero, Int.zero_add, String.reduceEq, Nat.zero_le, Option.some.injEq, Sum.inl.injEq, Sum.inr.injEq, reduceCtorEq, Int.reduceToNat, Option.toList_some, Option.toList_none, ac_cs, ac_c10, ac_c11, ac_c12, ac_c13, ac_c14, ac_c15, ac_c16, ac_c17, sc_E, sh_E, sc_I, sh_I, sc_II, sh_II, sc_III, sh_III, sc_R, sh_R, sc_RI, sh_RI, sc_RII, sh_RII, sc_RIII, sh_RIII, sc_RIIII, sh_RIIII, sc_RR, sh_RR, sc_RRI, sh_RRI, sc_RRR, sh_RRR, sc_RIR, sh_RIR, sc_RIRI, sh_RIRI, sc_RRII, sh_RRII, sc_RRIII, sh_RRIII, sc_RIIRR, sh_RIIRR, sc_RIIIRR, sh_RIIIRR, sc_RIIR, sh_RIIR, sc_RRIIR, sh_RRIIR, sc_RRIIIR, sh_RRIIIR, sc_RRIIIIR, sh_RRIIIIR, sc_RRIR, sh_RRIR]
  rintro v h' ⟨rfl, rfl⟩
  rw [j8, j7]
  simp only [j5.1, ac_ent, ldI, ldR, stI, stR, inc, cI, cJ, cN, bop, oAdd, oSub, oMul, oAnd, oOr, oXor, oShl, oShr, oUshr, oRem, oDiv, oMx, oMn, oI2l, oLcmp, oDup, oDup2, oDupX1, oPop, bIc, bI0, bNul, getI, getR, putI, putZ, putR, aLen, aldI, aldZ, aldJ, aldR, astI, astZ, astJ, astR, nwO, nwA, gsT, oObj, oCpy, oCln, oCst, rtI, rtZ, rtR, rtV, thr, call, callH, ac_hsel, ac_as, ac_rs, ac_cs, ac_rcv, List.map_cons, List.map_nil, List.length_cons, List.length_nil, List.replicate, List.append_nil, List.cons_append, List.nil_append, List.getElem?_cons_zero, List.getElem?_cons_succ, List.set, Nat.zero_add, Nat.add_zero, Nat.le_refl, Nat.reduceAdd, Nat.reduceSub, Nat.reduceLeDiff, Int.reduceLT, Int.reduceLE, Int.reduceNeg, Int.reduceEq, true_and, and_true, true_or, or_true, not_true_eq_false, not_false_eq_true, false_implies, true_implies, implies_true, reduceIte, and_self, Int.reduceAdd, Int.reduceMul, Int.reduceSub, eq_self, Int.add_zero, Int.zero_add, String.reduceEq, Nat.zero_le, Option.some.injEq, Sum.inl.injEq, Sum.inr.injEq, reduceCtorEq, Int.reduceToNat, Option.toList_some, Option.toList_none, ac_cs, ac_c10, ac_c11, ac_c12, ac_c13, ac_c14, ac_c15, ac_c16, ac_c17, sc_E, sh_E, sc_I, sh_I, sc_II, sh_II, sc_III, sh_III, sc_R, sh_R, sc_RI, sh_RI, sc_RII, sh_RII, sc_RIII, sh_RIII, sc_RIIII, sh_RIIII, sc_RR, sh_RR, sc_RRI, sh_RRI, sc_RRR, sh_RRR, sc_RIR, sh_RIR, sc_RIRI, sh_RIRI, sc_RRII, sh_RRII, sc_RRIII, sh_RRIII, sc_RIIRR, sh_RIIRR, sc_RIIIRR, sh_RIIIRR, sc_RIIR, sh_RIIR, sc_RRIIR, sh_RRIIR, sc_RRIIIR, sh_RRIIIR, sc_RRIIIIR, sh_RRIIIIR, sc_RRIR, sh_RRIR]
  exact ⟨far, w1, ag_up w3 (by decide)⟩
