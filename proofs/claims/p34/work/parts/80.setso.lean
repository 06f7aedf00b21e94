/-! ===== a set: its order and its rules are so ===== -/
theorem dC_9 (x y z u : Int) (s : sS) : dCd 9 x y z u s = cdOrder x y s ∧ dVl 9 x y z u s = vlOrder x y s ∧ dSt 9 x y z u s = s := by
  refine ⟨?_, ?_, ?_⟩
  · unfold dCd; rw [if_neg (by decide), if_neg (by decide), if_neg (by decide), if_neg (by decide), if_neg (by decide), if_neg (by decide), if_neg (by decide), if_neg (by decide), if_neg (by decide)]
  · unfold dVl; rw [if_neg (by decide), if_neg (by decide), if_neg (by decide), if_neg (by decide), if_neg (by decide), if_neg (by decide), if_neg (by decide), if_neg (by decide), if_neg (by decide)]
  · unfold dSt; rw [if_neg (by decide), if_neg (by decide), if_neg (by decide), if_neg (by decide), if_neg (by decide), if_neg (by decide), if_neg (by decide), if_neg (by decide)]
theorem dC_8 (x y z u : Int) (s : sS) : dCd 8 x y z u s = cdRule x y s ∧ dVl 8 x y z u s = rls s x y ∧ dSt 8 x y z u s = s := by
  refine ⟨?_, ?_, ?_⟩
  · unfold dCd; rw [if_neg (by decide), if_neg (by decide), if_neg (by decide), if_neg (by decide), if_neg (by decide), if_neg (by decide), if_neg (by decide), if_neg (by decide), if_pos rfl]
  · unfold dVl; rw [if_neg (by decide), if_neg (by decide), if_neg (by decide), if_neg (by decide), if_neg (by decide), if_neg (by decide), if_neg (by decide), if_neg (by decide), if_pos rfl]
  · unfold dSt; rw [if_neg (by decide), if_neg (by decide), if_neg (by decide), if_neg (by decide), if_neg (by decide), if_neg (by decide), if_neg (by decide), if_neg (by decide)]
theorem d9_y {s : sS} {set place : Int} (ha : hasA set s) (p0 : 0 ≤ place) (hp : psb s set) : dA 9 set place 0 0 s = vlOrder set place s := by
  have c : cdOrder set place s = 0 := by rw [cdOrder, if_pos ⟨ha, p0⟩, if_pos hp]
  obtain ⟨e1, e2, -⟩ := dC_9 set place 0 0 s
  unfold dA
  rw [e1, if_pos c, e2]
theorem d9_n {s : sS} {set place : Int} (ha : hasA set s) (p0 : 0 ≤ place) (hp : ¬ psb s set) : dA 9 set place 0 0 s = -9999999 := by
  have c : cdOrder set place s = 2 := by rw [cdOrder, if_pos ⟨ha, p0⟩, if_neg hp]
  obtain ⟨e1, e2, -⟩ := dC_9 set place 0 0 s
  unfold dA
  rw [e1, if_neg (by rw [c]; decide)]
theorem d9_s (set place : Int) (s : sS) : dN 9 set place 0 0 s = s := by
  unfold dN
  rw [(dC_9 set place 0 0 s).2.2]
  split <;> rfl
theorem d8_y {s : sS} {set rl : Int} (ha : hasA set s) (r0 : 0 ≤ rl) (r1 : rl < 6) (hp : psb s set) : dA 8 set rl 0 0 s = rls s set rl := by
  have c : cdRule set rl s = 0 := by rw [cdRule, if_pos ⟨r0, r1⟩, if_pos ha, if_pos hp]
  obtain ⟨e1, e2, -⟩ := dC_8 set rl 0 0 s
  unfold dA
  rw [e1, if_pos c, e2]
theorem d8_n {s : sS} {set rl : Int} (ha : hasA set s) (r0 : 0 ≤ rl) (r1 : rl < 6) (hp : ¬ psb s set) : dA 8 set rl 0 0 s = -9999999 := by
  have c : cdRule set rl s = 3 := by rw [cdRule, if_pos ⟨r0, r1⟩, if_pos ha, if_neg hp]
  obtain ⟨e1, e2, -⟩ := dC_8 set rl 0 0 s
  unfold dA
  rw [e1, if_neg (by rw [c]; decide)]
theorem d8_s (set rl : Int) (s : sS) : dN 8 set rl 0 0 s = s := by
  unfold dN
  rw [(dC_8 set rl 0 0 s).2.2]
  split <;> rfl
/-- a call of does that changes nothing -/
theorem CZ_z {o : Int} {h g : ac_H} {v : Option ac_V} {vl : sS → Int} {F : sS → sS} (w : OKz o h g v vl F) (hF : ∀ s, F s = s) : CZ o h g := fun Z s q => by
  obtain ⟨-, a, b⟩ := w Z s q
  rw [hF] at a
  exact ⟨a, b⟩
/-- an equation that arithmetic needn't look into -/
def EQ (a b : Int) : Prop := a = b
def psd (s : sS) (set : Int) : Prop := psb s set
def mayI (s : sS) (set may : Int) : Prop := (psd s set ∧ may = 1) ∨ (¬ psd s set ∧ may = 0)
theorem may_ex (s : sS) (set : Int) : ∃ y : Int, (if psb s set then (1 : Int) else 0) = y ∧ mayI s set y := by
  by_cases h : psb s set
  · exact ⟨1, if_pos h, Or.inl ⟨h, rfl⟩⟩
  · exact ⟨0, if_neg h, Or.inr ⟨h, rfl⟩⟩
theorem set_f {s : sS} {set : Int} (hS : SI s) (ha : hasA set s) : ∃ N : Nat, N ≤ 10 ∧ (∀ i : Nat, i < N → EQ (vlOrder set i s) (orS s set i) ∧ 0 ≤ orS s set i) ∧ (∀ i : Nat, ¬ i < N → EQ (vlOrder set i s) (-1)) ∧ (psd s set → EQ (mtS s set N) set) ∧
    (∀ p : Int, 0 ≤ p → (psd s set → EQ (dA 9 set p 0 0 s) (vlOrder set p s)) ∧ (¬ psd s set → EQ (dA 9 set p 0 0 s) (-9999999))) ∧
    (∀ r : Int, 0 ≤ r → r < 6 → (psd s set → ac_tbz 1 r ≤ dA 8 set r 0 0 s ∧ dA 8 set r 0 0 s ≤ ac_tbz 2 r) ∧ (¬ psd s set → EQ (dA 8 set r 0 0 s) (-9999999))) ∧ cdSet set s = 0 := by
  refine ⟨onS s set, on_10 s set, fun i hi => ⟨?_, (or_rg hS hi).1⟩, fun i hi => ?_, fun hp => mt_all hS hp, fun p p0 => ⟨fun hp => d9_y ha p0 hp, fun hp => d9_n ha p0 hp⟩, fun r r0 r1 => ⟨fun hp => ?_, fun hp => d8_n ha r0 r1 hp⟩, if_pos ha⟩
  · unfold EQ vlOrder
    rw [if_pos (Int.ofNat_lt.mpr hi), Int.toNat_natCast]
  · unfold EQ vlOrder
    rw [if_neg (fun q => hi (Int.ofNat_lt.mp q))]
  · rw [d8_y ha r0 r1 hp]
    exact rls_rg s set r0 r1
def sso (s : sS) (set : Int) (N i : Nat) (may met pack : Int) : Prop := (psd s set ∧ may = 1 ∧ i ≤ N ∧ EQ met (mtS s set i) ∧ EQ pack (vlOrder set i s)) ∨ (¬ psd s set ∧ may = 0 ∧ i = 0 ∧ met = 0 ∧ pack = -9999999)
def itsI (s : sS) (set r y : Int) : Prop := (psd s set ∧ ac_tbz 1 r ≤ y ∧ y ≤ ac_tbz 2 r) ∨ (¬ psd s set ∧ y = -9999999)
def spL_isSetSo : ac_Sp := sc_RI (fun o set h => CX h o ∧ ∀ Z s, FZ Z h o s → hasA set s) (fun o set h v h' => v = some (.inl 1) ∧ CZ o h h') (fun _ _ _ _ _ => False)
def ivL_isSetSo (o set : Int) (N : Nat) (s : sS) (h : ac_H) : Nat → Nat → ac_S := fun j m => match j with
  | 0 => fun L S g k z => m = 1000 ∧ ent0 [some (.inr (.inl o)), some (.inl set), none, none, none, none, none, none, none, none] h L S g k z
  | 1 => fun L S g k z => ∃ (i : Nat) (may met pack : Int) (o6 o7 o8 o9 : Option ac_V), m = 300 - 2 * i ∧ i ≤ 10 ∧ sso s set N i may met pack ∧ CZ o h g ∧ L = [some (.inr (.inl o)), some (.inl set), some (.inl may), some (.inl met), some (.inl i), some (.inl pack), o6, o7, o8, o9] ∧ S = [] ∧ k ≤ 29 + 28 * i ∧ z ≤ 401 + 395 * i
  | 2 => fun L S g k z => ∃ (i : Nat) (may met : Int) (o5 o6 o7 o8 o9 : Option ac_V), m = 299 - 2 * i ∧ i < N ∧ (psd s set ∧ may = 1 ∧ EQ met (mtS s set (i + 1))) ∧ CZ o h g ∧ L = [some (.inr (.inl o)), some (.inl set), some (.inl may), some (.inl met), some (.inl ((i + 1 : Nat) : Int)), o5, o6, o7, o8, o9] ∧ S = [] ∧ k ≤ 29 + 28 * i ∧ z ≤ 401 + 395 * i
  | 3 => fun L S g k z => ∃ (i : Nat) (may met pack : Int) (o6 o7 o8 o9 : Option ac_V), m = 200 ∧ i ≤ 10 ∧ sso s set N i may met pack ∧ pack < 0 ∧ CZ o h g ∧ L = [some (.inr (.inl o)), some (.inl set), some (.inl may), some (.inl met), some (.inl i), some (.inl pack), o6, o7, o8, o9] ∧ S = [] ∧ k ≤ 29 + 28 * i ∧ z ≤ 401 + 395 * i
  | 6 => fun L S g k z => ∃ (may : Int) (o3 o4 o5 o6 o7 o8 o9 : Option ac_V), m = 150 ∧ mayI s set may ∧ CZ o h g ∧ L = [some (.inr (.inl o)), some (.inl set), some (.inl may), o3, o4, o5, o6, o7, o8, o9] ∧ S = [.inl 1] ∧ k ≤ 309 ∧ z ≤ 4351
  | 7 => fun L S g k z => ∃ (may r : Int) (o3 o4 o5 o8 o9 : Option ac_V), 0 ≤ r ∧ r ≤ 6 ∧ (m : Int) = 100 - 10 * r ∧ mayI s set may ∧ CZ o h g ∧ L = [some (.inr (.inl o)), some (.inl set), some (.inl may), o3, o4, o5, some (.inl 1), some (.inl r), o8, o9] ∧ S = [] ∧ (k : Int) ≤ 309 + 28 * r ∧ (z : Int) ≤ 4351 + 395 * r
  | 8 => fun L S g k z => ∃ (may r y x : Int) (o3 o4 o5 o9 : Option ac_V), 0 ≤ r ∧ r < 6 ∧ (m : Int) = 99 - 10 * r ∧ mayI s set may ∧ itsI s set r y ∧ EQ x (ac_tbz 2 r) ∧ CZ o h g ∧ L = [some (.inr (.inl o)), some (.inl set), some (.inl may), o3, o4, o5, some (.inl 1), some (.inl r), some (.inl y), o9] ∧ S = [.inl x] ∧ (k : Int) ≤ 309 + 28 * (r + 1) ∧ (z : Int) ≤ 4351 + 395 * (r + 1)
  | 9 => fun L S g k z => ∃ (may r y x w : Int) (o3 o4 o5 : Option ac_V), 0 ≤ r ∧ r < 6 ∧ (m : Int) = 98 - 10 * r ∧ w ≤ y ∧ y ≤ x ∧ mayI s set may ∧ CZ o h g ∧ L = [some (.inr (.inl o)), some (.inl set), some (.inl may), o3, o4, o5, some (.inl 1), some (.inl r), some (.inl y), some (.inl x)] ∧ S = [.inl w, .inl y] ∧ (k : Int) ≤ 309 + 28 * (r + 1) ∧ (z : Int) ≤ 4351 + 395 * (r + 1)
  | 12 => fun L S g k z => ∃ (may r : Int) (o3 o4 o5 o8 o9 : Option ac_V), 0 ≤ r ∧ r < 6 ∧ (m : Int) = 97 - 10 * r ∧ mayI s set may ∧ CZ o h g ∧ L = [some (.inr (.inl o)), some (.inl set), some (.inl may), o3, o4, o5, some (.inl 1), some (.inl r), o8, o9] ∧ S = [.inl 1] ∧ (k : Int) ≤ 309 + 28 * (r + 1) ∧ (z : Int) ≤ 4351 + 395 * (r + 1)
  | _ => fun _ _ _ _ _ => False
set_option maxRecDepth 100000 in
set_option maxHeartbeats 4000000 in
theorem mtL_isSetSo {G : ac_G} {l : Launch} : ac_Met G l yL_isSetSo mL_isSetSo 9 194 600 8000 spL_isSetSo := by
  refine ac_meth (pcs := pcL_isSetSo) (B := fun P X J j => vcL_isSetSo spX8_isPossible spL_does P X J j) (by decide) rfl rfl rfl (fun P X J hJ j => sdL_isSetSo mtX8_isPossible mtL_does P X J hJ j) (hp_RI (by decide)) fun As h hp => ?_
  obtain ⟨o, set, rfl, hp⟩ := sh_RI_inv hp
  obtain ⟨hX, hA⟩ := hp
  obtain ⟨s, q0⟩ := id hX
  obtain ⟨N, n10, f1, f2, f3, f4, f5, cs⟩ := set_f (FZ_S q0) (hA _ s q0)
  clear hA
  have dz9 : ∀ {g g' : ac_H} {w : Option ac_V} {p : Int}, CZ o h g → OKz o g g' w (dA 9 set p 0 0) (dN 9 set p 0 0) → ∃ y, w = some (.inl y) ∧ EQ y (dA 9 set p 0 0 s) ∧ CZ o h g' := fun c w => ⟨_, (w _ s (CZ_X c q0)).1, rfl, CZ_tr c (CZ_z w (d9_s set _))⟩
  have dz8 : ∀ {g g' : ac_H} {w : Option ac_V} {p : Int}, CZ o h g → OKz o g g' w (dA 8 set p 0 0) (dN 8 set p 0 0) → ∃ y, w = some (.inl y) ∧ EQ y (dA 8 set p 0 0 s) ∧ CZ o h g' := fun c w => ⟨_, (w _ s (CZ_X c q0)).1, rfl, CZ_tr c (CZ_z w (d8_s set _))⟩
  refine ⟨ivL_isSetSo o set N s h, 1000, ⟨rfl, rfl, rfl, rfl, rfl, rfl⟩, fun j m L S g k z hI => ?_⟩
  match j, hI with
  | 0, hI =>
    obtain ⟨hm, rfl, rfl, rfl, rfl, rfl⟩ := hI
    obtain ⟨hW, h1⟩ := CX_W hX
    simp only [spL_isSetSo, vcL_isSetSo, mL_isSetSo, spX8_isPossible, spL_does, ac_ent, ldI, ldR, stI, stR, inc, cI, cJ, cN, bop, oAdd, oSub, oMul, oAnd, oOr, oXor, oShl, oShr, oUshr, oRem, oDiv, oMx, oMn, oI2l, oLcmp, oDup, oDup2, oDupX1, oPop, bIc, bI0, bNul, getI, getR, putI, putZ, putR, aLen, aldI, aldZ, aldJ, aldR, astI, astZ, astJ, astR, nwO, nwA, gsT, oObj, oCpy, oCln, oCst, rtI, rtZ, rtR, rtV, thr, call, callH, ac_hsel, ac_as, ac_rs, ac_cs, ac_rcv, List.map_cons, List.map_nil, List.length_cons, List.length_nil, List.replicate, List.append_nil, List.cons_append, List.nil_append, List.getElem?_cons_zero, List.getElem?_cons_succ, List.set, Nat.zero_add, Nat.add_zero, Nat.le_refl, Nat.reduceAdd, Nat.reduceSub, Nat.reduceLeDiff, Int.reduceLT, Int.reduceLE, Int.reduceNeg, Int.reduceEq, true_and, and_true, true_or, or_true, not_true_eq_false, not_false_eq_true, false_implies, true_implies, implies_true, reduceIte, and_self, Int.reduceAdd, Int.reduceMul, Int.reduceSub, eq_self, Int.add_zero, Int.zero_add, String.reduceEq, Nat.zero_le, Option.some.injEq, Sum.inl.injEq, Sum.inr.injEq, reduceCtorEq, Int.reduceToNat, Option.toList_some, Option.toList_none, ac_cs, ac_c10, ac_c11, ac_c12, ac_c13, ac_c14, ac_c15, ac_c16, ac_c17, sc_E, sh_E, sc_I, sh_I, sc_II, sh_II, sc_III, sh_III, sc_R, sh_R, sc_RI, sh_RI, sc_RII, sh_RII, sc_RIII, sh_RIII, sc_RIIII, sh_RIIII, sc_RR, sh_RR, sc_RRI, sh_RRI, sc_RRR, sh_RRR, sc_RIR, sh_RIR, sc_RIRI, sh_RIRI, sc_RRII, sh_RRII, sc_RRIII, sh_RRIII, sc_RIIRR, sh_RIIRR, sc_RIIIRR, sh_RIIIRR, sc_RIIR, sh_RIIR, sc_RRIIR, sh_RRIIR, sc_RRIIIR, sh_RRIIIR, sc_RRIIIIR, sh_RRIIIIR, sc_RRIR, sh_RRIR, hW, h1, and_imp, forall_eq, psc, sc_RIIIII, sh_RIIIII]
    refine ⟨fun v g1 w => ?_, fun E g1 w => absurd cs (FZ_e q0 w).1⟩
    obtain ⟨-, rfl, -, -⟩ := FZ_c q0 w (fun _ h _ => h)
    have c1 := CZ_c w
    have X1 := CX_t hX c1
    obtain ⟨may, e, hy⟩ := may_ex s set
    rw [e]
    simp only [X1, ac_ent, ldI, ldR, stI, stR, inc, cI, cJ, cN, bop, oAdd, oSub, oMul, oAnd, oOr, oXor, oShl, oShr, oUshr, oRem, oDiv, oMx, oMn, oI2l, oLcmp, oDup, oDup2, oDupX1, oPop, bIc, bI0, bNul, getI, getR, putI, putZ, putR, aLen, aldI, aldZ, aldJ, aldR, astI, astZ, astJ, astR, nwO, nwA, gsT, oObj, oCpy, oCln, oCst, rtI, rtZ, rtR, rtV, thr, call, callH, ac_hsel, ac_as, ac_rs, ac_cs, ac_rcv, List.map_cons, List.map_nil, List.length_cons, List.length_nil, List.replicate, List.append_nil, List.cons_append, List.nil_append, List.getElem?_cons_zero, List.getElem?_cons_succ, List.set, Nat.zero_add, Nat.add_zero, Nat.le_refl, Nat.reduceAdd, Nat.reduceSub, Nat.reduceLeDiff, Int.reduceLT, Int.reduceLE, Int.reduceNeg, Int.reduceEq, true_and, and_true, true_or, or_true, not_true_eq_false, not_false_eq_true, false_implies, true_implies, implies_true, reduceIte, and_self, Int.reduceAdd, Int.reduceMul, Int.reduceSub, eq_self, Int.add_zero, Int.zero_add, String.reduceEq, Nat.zero_le, Option.some.injEq, Sum.inl.injEq, Sum.inr.injEq, reduceCtorEq, Int.reduceToNat, Option.toList_some, Option.toList_none, ac_cs, ac_c10, ac_c11, ac_c12, ac_c13, ac_c14, ac_c15, ac_c16, ac_c17, sc_E, sh_E, sc_I, sh_I, sc_II, sh_II, sc_III, sh_III, sc_R, sh_R, sc_RI, sh_RI, sc_RII, sh_RII, sc_RIII, sh_RIII, sc_RIIII, sh_RIIII, sc_RR, sh_RR, sc_RRI, sh_RRI, sc_RRR, sh_RRR, sc_RIR, sh_RIR, sc_RIRI, sh_RIRI, sc_RRII, sh_RRII, sc_RRIII, sh_RRIII, sc_RIIRR, sh_RIIRR, sc_RIIIRR, sh_RIIIRR, sc_RIIR, sh_RIIR, sc_RRIIR, sh_RRIIR, sc_RRIIIR, sh_RRIIIR, sc_RRIIIIR, sh_RRIIIIR, sc_RRIR, sh_RRIR, and_imp, forall_eq, psc, sc_RIIIII, sh_RIIIII]
    intro v g2 w2
    obtain ⟨y, rfl, ey, c2⟩ := dz9 c1 w2
    simp only [ac_ent, ldI, ldR, stI, stR, inc, cI, cJ, cN, bop, oAdd, oSub, oMul, oAnd, oOr, oXor, oShl, oShr, oUshr, oRem, oDiv, oMx, oMn, oI2l, oLcmp, oDup, oDup2, oDupX1, oPop, bIc, bI0, bNul, getI, getR, putI, putZ, putR, aLen, aldI, aldZ, aldJ, aldR, astI, astZ, astJ, astR, nwO, nwA, gsT, oObj, oCpy, oCln, oCst, rtI, rtZ, rtR, rtV, thr, call, callH, ac_hsel, ac_as, ac_rs, ac_cs, ac_rcv, List.map_cons, List.map_nil, List.length_cons, List.length_nil, List.replicate, List.append_nil, List.cons_append, List.nil_append, List.getElem?_cons_zero, List.getElem?_cons_succ, List.set, Nat.zero_add, Nat.add_zero, Nat.le_refl, Nat.reduceAdd, Nat.reduceSub, Nat.reduceLeDiff, Int.reduceLT, Int.reduceLE, Int.reduceNeg, Int.reduceEq, true_and, and_true, true_or, or_true, not_true_eq_false, not_false_eq_true, false_implies, true_implies, implies_true, reduceIte, and_self, Int.reduceAdd, Int.reduceMul, Int.reduceSub, eq_self, Int.add_zero, Int.zero_add, String.reduceEq, Nat.zero_le, Option.some.injEq, Sum.inl.injEq, Sum.inr.injEq, reduceCtorEq, Int.reduceToNat, Option.toList_some, Option.toList_none, ac_cs, ac_c10, ac_c11, ac_c12, ac_c13, ac_c14, ac_c15, ac_c16, ac_c17, sc_E, sh_E, sc_I, sh_I, sc_II, sh_II, sc_III, sh_III, sc_R, sh_R, sc_RI, sh_RI, sc_RII, sh_RII, sc_RIII, sh_RIII, sc_RIIII, sh_RIIII, sc_RR, sh_RR, sc_RRI, sh_RRI, sc_RRR, sh_RRR, sc_RIR, sh_RIR, sc_RIRI, sh_RIRI, sc_RRII, sh_RRII, sc_RRIII, sh_RRIII, sc_RIIRR, sh_RIIRR, sc_RIIIRR, sh_RIIIRR, sc_RIIR, sh_RIIR, sc_RRIIR, sh_RRIIR, sc_RRIIIR, sh_RRIIIR, sc_RRIIIIR, sh_RRIIIIR, sc_RRIR, sh_RRIR, and_imp, forall_eq, psc, sc_RIIIII, sh_RIIIII]
    have so : sso s set N 0 may 0 y := by
      rcases hy with ⟨hp, hm2⟩ | ⟨hp, hm2⟩
      · exact Or.inl ⟨hp, hm2, Nat.zero_le _, rfl, ey.trans ((f4 0 (Int.le_refl _)).1 hp)⟩
      · exact Or.inr ⟨hp, hm2, rfl, rfl, ey.trans ((f4 0 (Int.le_refl _)).2 hp)⟩
    clear ey w2 w
    exact ⟨300, by omega, 0, may, 0, y, _, _, _, _, rfl, by omega, so, c2, rfl, rfl, by omega, by omega⟩
  | 1, hI =>
    obtain ⟨i, may, met, pack, o6, o7, o8, o9, hm, i10, so, c, rfl, rfl, hk, hz⟩ := hI
    simp only [spL_isSetSo, vcL_isSetSo, mL_isSetSo, spX8_isPossible, spL_does, ac_ent, ldI, ldR, stI, stR, inc, cI, cJ, cN, bop, oAdd, oSub, oMul, oAnd, oOr, oXor, oShl, oShr, oUshr, oRem, oDiv, oMx, oMn, oI2l, oLcmp, oDup, oDup2, oDupX1, oPop, bIc, bI0, bNul, getI, getR, putI, putZ, putR, aLen, aldI, aldZ, aldJ, aldR, astI, astZ, astJ, astR, nwO, nwA, gsT, oObj, oCpy, oCln, oCst, rtI, rtZ, rtR, rtV, thr, call, callH, ac_hsel, ac_as, ac_rs, ac_cs, ac_rcv, List.map_cons, List.map_nil, List.length_cons, List.length_nil, List.replicate, List.append_nil, List.cons_append, List.nil_append, List.getElem?_cons_zero, List.getElem?_cons_succ, List.set, Nat.zero_add, Nat.add_zero, Nat.le_refl, Nat.reduceAdd, Nat.reduceSub, Nat.reduceLeDiff, Int.reduceLT, Int.reduceLE, Int.reduceNeg, Int.reduceEq, true_and, and_true, true_or, or_true, not_true_eq_false, not_false_eq_true, false_implies, true_implies, implies_true, reduceIte, and_self, Int.reduceAdd, Int.reduceMul, Int.reduceSub, eq_self, Int.add_zero, Int.zero_add, String.reduceEq, Nat.zero_le, Option.some.injEq, Sum.inl.injEq, Sum.inr.injEq, reduceCtorEq, Int.reduceToNat, Option.toList_some, Option.toList_none, ac_cs, ac_c10, ac_c11, ac_c12, ac_c13, ac_c14, ac_c15, ac_c16, ac_c17, sc_E, sh_E, sc_I, sh_I, sc_II, sh_II, sc_III, sh_III, sc_R, sh_R, sc_RI, sh_RI, sc_RII, sh_RII, sc_RIII, sh_RIII, sc_RIIII, sh_RIIII, sc_RR, sh_RR, sc_RRI, sh_RRI, sc_RRR, sh_RRR, sc_RIR, sh_RIR, sc_RIRI, sh_RIRI, sc_RRII, sh_RRII, sc_RRIII, sh_RRIII, sc_RIIRR, sh_RIIRR, sc_RIIIRR, sh_RIIIRR, sc_RIIR, sh_RIIR, sc_RRIIR, sh_RRIIR, sc_RRIIIR, sh_RRIIIR, sc_RRIIIIR, sh_RRIIIIR, sc_RRIR, sh_RRIR, and_imp, forall_eq, psc, sc_RIIIII, sh_RIIIII]
    refine ⟨fun q => ⟨200, by omega, i, may, met, pack, o6, o7, o8, o9, rfl, i10, so, q, c, rfl, rfl, hk, hz⟩, fun q => ⟨fun q2 => by omega, fun q2 => ?_⟩⟩
    rcases so with ⟨hp, e1, e2, e3, e4⟩ | ⟨hp, e1, e2, e3, e4⟩
    case inr => exact absurd (show pack < 0 by rw [e4]; decide) q
    have lt : i < N := by
      by_cases w : i < N
      · exact w
      · exfalso
        have : pack = -1 := e4.trans (f2 i w)
        omega
    have ei : wr ((i : Int) + 1) = ((i + 1 : Nat) : Int) := by rw [wr_of (by omega) (by omega)]; rfl
    have em : EQ (wr (met + ishl 1 pack)) (mtS s set (i + 1)) := by
      have a1 : met = mtS s set i := e3
      have a2 : pack = orS s set i := e4.trans (f1 i lt).1
      unfold EQ
      rw [a1, a2, mtS]
    clear e3 e4
    exact ⟨299 - 2 * i, by omega, i, may, _, _, o6, o7, o8, o9, rfl, lt, ⟨hp, e1, em⟩, c, by rw [ei], rfl, hk, hz⟩
  | 2, hI =>
    obtain ⟨i, may, met, o5, o6, o7, o8, o9, hm, lt, ⟨hp, e1, e3⟩, c, rfl, rfl, hk, hz⟩ := hI
    have X1 := CX_t hX c
    simp only [spL_isSetSo, vcL_isSetSo, mL_isSetSo, spX8_isPossible, spL_does, ac_ent, ldI, ldR, stI, stR, inc, cI, cJ, cN, bop, oAdd, oSub, oMul, oAnd, oOr, oXor, oShl, oShr, oUshr, oRem, oDiv, oMx, oMn, oI2l, oLcmp, oDup, oDup2, oDupX1, oPop, bIc, bI0, bNul, getI, getR, putI, putZ, putR, aLen, aldI, aldZ, aldJ, aldR, astI, astZ, astJ, astR, nwO, nwA, gsT, oObj, oCpy, oCln, oCst, rtI, rtZ, rtR, rtV, thr, call, callH, ac_hsel, ac_as, ac_rs, ac_cs, ac_rcv, List.map_cons, List.map_nil, List.length_cons, List.length_nil, List.replicate, List.append_nil, List.cons_append, List.nil_append, List.getElem?_cons_zero, List.getElem?_cons_succ, List.set, Nat.zero_add, Nat.add_zero, Nat.le_refl, Nat.reduceAdd, Nat.reduceSub, Nat.reduceLeDiff, Int.reduceLT, Int.reduceLE, Int.reduceNeg, Int.reduceEq, true_and, and_true, true_or, or_true, not_true_eq_false, not_false_eq_true, false_implies, true_implies, implies_true, reduceIte, and_self, Int.reduceAdd, Int.reduceMul, Int.reduceSub, eq_self, Int.add_zero, Int.zero_add, String.reduceEq, Nat.zero_le, Option.some.injEq, Sum.inl.injEq, Sum.inr.injEq, reduceCtorEq, Int.reduceToNat, Option.toList_some, Option.toList_none, ac_cs, ac_c10, ac_c11, ac_c12, ac_c13, ac_c14, ac_c15, ac_c16, ac_c17, sc_E, sh_E, sc_I, sh_I, sc_II, sh_II, sc_III, sh_III, sc_R, sh_R, sc_RI, sh_RI, sc_RII, sh_RII, sc_RIII, sh_RIII, sc_RIIII, sh_RIIII, sc_RR, sh_RR, sc_RRI, sh_RRI, sc_RRR, sh_RRR, sc_RIR, sh_RIR, sc_RIRI, sh_RIRI, sc_RRII, sh_RRII, sc_RRIII, sh_RRIII, sc_RIIRR, sh_RIIRR, sc_RIIIRR, sh_RIIIRR, sc_RIIR, sh_RIIR, sc_RRIIR, sh_RRIIR, sc_RRIIIR, sh_RRIIIR, sc_RRIIIIR, sh_RRIIIIR, sc_RRIR, sh_RRIR, X1, and_imp, forall_eq, psc, sc_RIIIII, sh_RIIIII]
    refine ⟨⟨by omega, by omega⟩, ?_⟩
    intro v g2 w2
    obtain ⟨y, rfl, ey, c2⟩ := dz9 c w2
    simp only [ac_ent, ldI, ldR, stI, stR, inc, cI, cJ, cN, bop, oAdd, oSub, oMul, oAnd, oOr, oXor, oShl, oShr, oUshr, oRem, oDiv, oMx, oMn, oI2l, oLcmp, oDup, oDup2, oDupX1, oPop, bIc, bI0, bNul, getI, getR, putI, putZ, putR, aLen, aldI, aldZ, aldJ, aldR, astI, astZ, astJ, astR, nwO, nwA, gsT, oObj, oCpy, oCln, oCst, rtI, rtZ, rtR, rtV, thr, call, callH, ac_hsel, ac_as, ac_rs, ac_cs, ac_rcv, List.map_cons, List.map_nil, List.length_cons, List.length_nil, List.replicate, List.append_nil, List.cons_append, List.nil_append, List.getElem?_cons_zero, List.getElem?_cons_succ, List.set, Nat.zero_add, Nat.add_zero, Nat.le_refl, Nat.reduceAdd, Nat.reduceSub, Nat.reduceLeDiff, Int.reduceLT, Int.reduceLE, Int.reduceNeg, Int.reduceEq, true_and, and_true, true_or, or_true, not_true_eq_false, not_false_eq_true, false_implies, true_implies, implies_true, reduceIte, and_self, Int.reduceAdd, Int.reduceMul, Int.reduceSub, eq_self, Int.add_zero, Int.zero_add, String.reduceEq, Nat.zero_le, Option.some.injEq, Sum.inl.injEq, Sum.inr.injEq, reduceCtorEq, Int.reduceToNat, Option.toList_some, Option.toList_none, ac_cs, ac_c10, ac_c11, ac_c12, ac_c13, ac_c14, ac_c15, ac_c16, ac_c17, sc_E, sh_E, sc_I, sh_I, sc_II, sh_II, sc_III, sh_III, sc_R, sh_R, sc_RI, sh_RI, sc_RII, sh_RII, sc_RIII, sh_RIII, sc_RIIII, sh_RIIII, sc_RR, sh_RR, sc_RRI, sh_RRI, sc_RRR, sh_RRR, sc_RIR, sh_RIR, sc_RIRI, sh_RIRI, sc_RRII, sh_RRII, sc_RRIII, sh_RRIII, sc_RIIRR, sh_RIIRR, sc_RIIIRR, sh_RIIIRR, sc_RIIR, sh_RIIR, sc_RRIIR, sh_RRIIR, sc_RRIIIR, sh_RRIIIR, sc_RRIIIIR, sh_RRIIIIR, sc_RRIR, sh_RRIR, and_imp, forall_eq, psc, sc_RIIIII, sh_RIIIII]
    have so : sso s set N (i + 1) may met y := Or.inl ⟨hp, e1, lt, e3, ey.trans ((f4 _ (Int.natCast_nonneg _)).1 hp)⟩
    clear ey w2 e3
    exact ⟨300 - 2 * (i + 1), by omega, i + 1, may, _, y, o6, o7, o8, o9, rfl, by omega, so, c2, rfl, rfl, by omega, by omega⟩
  | 3, hI =>
    obtain ⟨i, may, met, pack, o6, o7, o8, o9, hm, i10, so, hq, c, rfl, rfl, hk, hz⟩ := hI
    rcases so with ⟨hp, rfl, e2, e3, e4⟩ | ⟨hp, rfl, rfl, rfl, rfl⟩
    · have ei : i = N := by
        by_cases w : i < N
        · exfalso
          have a : pack = orS s set i := e4.trans (f1 i w).1
          have b := (f1 i w).2
          rw [a] at hq
          exact absurd b (Int.not_le.mpr hq)
        · omega
      have ep : pack = -1 := e4.trans (f2 i (by omega))
      have em : met = set := by
        have a : met = mtS s set i := e3
        rw [a, ei]; exact f3 hp
      clear e3 e4
      subst ep em
      simp only [spL_isSetSo, vcL_isSetSo, mL_isSetSo, spX8_isPossible, spL_does, ac_ent, ldI, ldR, stI, stR, inc, cI, cJ, cN, bop, oAdd, oSub, oMul, oAnd, oOr, oXor, oShl, oShr, oUshr, oRem, oDiv, oMx, oMn, oI2l, oLcmp, oDup, oDup2, oDupX1, oPop, bIc, bI0, bNul, getI, getR, putI, putZ, putR, aLen, aldI, aldZ, aldJ, aldR, astI, astZ, astJ, astR, nwO, nwA, gsT, oObj, oCpy, oCln, oCst, rtI, rtZ, rtR, rtV, thr, call, callH, ac_hsel, ac_as, ac_rs, ac_cs, ac_rcv, List.map_cons, List.map_nil, List.length_cons, List.length_nil, List.replicate, List.append_nil, List.cons_append, List.nil_append, List.getElem?_cons_zero, List.getElem?_cons_succ, List.set, Nat.zero_add, Nat.add_zero, Nat.le_refl, Nat.reduceAdd, Nat.reduceSub, Nat.reduceLeDiff, Int.reduceLT, Int.reduceLE, Int.reduceNeg, Int.reduceEq, true_and, and_true, true_or, or_true, not_true_eq_false, not_false_eq_true, false_implies, true_implies, implies_true, reduceIte, and_self, Int.reduceAdd, Int.reduceMul, Int.reduceSub, eq_self, Int.add_zero, Int.zero_add, String.reduceEq, Nat.zero_le, Option.some.injEq, Sum.inl.injEq, Sum.inr.injEq, reduceCtorEq, Int.reduceToNat, Option.toList_some, Option.toList_none, ac_cs, ac_c10, ac_c11, ac_c12, ac_c13, ac_c14, ac_c15, ac_c16, ac_c17, sc_E, sh_E, sc_I, sh_I, sc_II, sh_II, sc_III, sh_III, sc_R, sh_R, sc_RI, sh_RI, sc_RII, sh_RII, sc_RIII, sh_RIII, sc_RIIII, sh_RIIII, sc_RR, sh_RR, sc_RRI, sh_RRI, sc_RRR, sh_RRR, sc_RIR, sh_RIR, sc_RIRI, sh_RIRI, sc_RRII, sh_RRII, sc_RRIII, sh_RRIII, sc_RIIRR, sh_RIIRR, sc_RIIIRR, sh_RIIIRR, sc_RIIR, sh_RIIR, sc_RRIIR, sh_RRIIR, sc_RRIIIR, sh_RRIIIR, sc_RRIIIIR, sh_RRIIIIR, sc_RRIR, sh_RRIR, and_imp, forall_eq, psc, sc_RIIIII, sh_RIIIII]
      exact ⟨150, by omega, 1, _, _, _, o6, o7, o8, o9, rfl, Or.inl ⟨hp, rfl⟩, c, rfl, rfl, by omega, by omega⟩
    · clear hq
      simp only [spL_isSetSo, vcL_isSetSo, mL_isSetSo, spX8_isPossible, spL_does, ac_ent, ldI, ldR, stI, stR, inc, cI, cJ, cN, bop, oAdd, oSub, oMul, oAnd, oOr, oXor, oShl, oShr, oUshr, oRem, oDiv, oMx, oMn, oI2l, oLcmp, oDup, oDup2, oDupX1, oPop, bIc, bI0, bNul, getI, getR, putI, putZ, putR, aLen, aldI, aldZ, aldJ, aldR, astI, astZ, astJ, astR, nwO, nwA, gsT, oObj, oCpy, oCln, oCst, rtI, rtZ, rtR, rtV, thr, call, callH, ac_hsel, ac_as, ac_rs, ac_cs, ac_rcv, List.map_cons, List.map_nil, List.length_cons, List.length_nil, List.replicate, List.append_nil, List.cons_append, List.nil_append, List.getElem?_cons_zero, List.getElem?_cons_succ, List.set, Nat.zero_add, Nat.add_zero, Nat.le_refl, Nat.reduceAdd, Nat.reduceSub, Nat.reduceLeDiff, Int.reduceLT, Int.reduceLE, Int.reduceNeg, Int.reduceEq, true_and, and_true, true_or, or_true, not_true_eq_false, not_false_eq_true, false_implies, true_implies, implies_true, reduceIte, and_self, Int.reduceAdd, Int.reduceMul, Int.reduceSub, eq_self, Int.add_zero, Int.zero_add, String.reduceEq, Nat.zero_le, Option.some.injEq, Sum.inl.injEq, Sum.inr.injEq, reduceCtorEq, Int.reduceToNat, Option.toList_some, Option.toList_none, ac_cs, ac_c10, ac_c11, ac_c12, ac_c13, ac_c14, ac_c15, ac_c16, ac_c17, sc_E, sh_E, sc_I, sh_I, sc_II, sh_II, sc_III, sh_III, sc_R, sh_R, sc_RI, sh_RI, sc_RII, sh_RII, sc_RIII, sh_RIII, sc_RIIII, sh_RIIII, sc_RR, sh_RR, sc_RRI, sh_RRI, sc_RRR, sh_RRR, sc_RIR, sh_RIR, sc_RIRI, sh_RIRI, sc_RRII, sh_RRII, sc_RRIII, sh_RRIII, sc_RIIRR, sh_RIIRR, sc_RIIIRR, sh_RIIIRR, sc_RIIR, sh_RIIR, sc_RRIIR, sh_RRIIR, sc_RRIIIR, sh_RRIIIR, sc_RRIIIIR, sh_RRIIIIR, sc_RRIR, sh_RRIR, and_imp, forall_eq, psc, sc_RIIIII, sh_RIIIII]
      exact ⟨fun _ => ⟨150, by omega, 0, _, _, _, o6, o7, o8, o9, rfl, Or.inr ⟨hp, rfl⟩, c, rfl, rfl, by omega, by omega⟩, fun q => absurd rfl q⟩
  | 4, hI => exact hI.elim
  | 5, hI => exact hI.elim
  | 6, hI =>
    obtain ⟨may, o3, o4, o5, o6, o7, o8, o9, hm, hy, c, rfl, rfl, hk, hz⟩ := hI
    simp only [spL_isSetSo, vcL_isSetSo, mL_isSetSo, spX8_isPossible, spL_does, ac_ent, ldI, ldR, stI, stR, inc, cI, cJ, cN, bop, oAdd, oSub, oMul, oAnd, oOr, oXor, oShl, oShr, oUshr, oRem, oDiv, oMx, oMn, oI2l, oLcmp, oDup, oDup2, oDupX1, oPop, bIc, bI0, bNul, getI, getR, putI, putZ, putR, aLen, aldI, aldZ, aldJ, aldR, astI, astZ, astJ, astR, nwO, nwA, gsT, oObj, oCpy, oCln, oCst, rtI, rtZ, rtR, rtV, thr, call, callH, ac_hsel, ac_as, ac_rs, ac_cs, ac_rcv, List.map_cons, List.map_nil, List.length_cons, List.length_nil, List.replicate, List.append_nil, List.cons_append, List.nil_append, List.getElem?_cons_zero, List.getElem?_cons_succ, List.set, Nat.zero_add, Nat.add_zero, Nat.le_refl, Nat.reduceAdd, Nat.reduceSub, Nat.reduceLeDiff, Int.reduceLT, Int.reduceLE, Int.reduceNeg, Int.reduceEq, true_and, and_true, true_or, or_true, not_true_eq_false, not_false_eq_true, false_implies, true_implies, implies_true, reduceIte, and_self, Int.reduceAdd, Int.reduceMul, Int.reduceSub, eq_self, Int.add_zero, Int.zero_add, String.reduceEq, Nat.zero_le, Option.some.injEq, Sum.inl.injEq, Sum.inr.injEq, reduceCtorEq, Int.reduceToNat, Option.toList_some, Option.toList_none, ac_cs, ac_c10, ac_c11, ac_c12, ac_c13, ac_c14, ac_c15, ac_c16, ac_c17, sc_E, sh_E, sc_I, sh_I, sc_II, sh_II, sc_III, sh_III, sc_R, sh_R, sc_RI, sh_RI, sc_RII, sh_RII, sc_RIII, sh_RIII, sc_RIIII, sh_RIIII, sc_RR, sh_RR, sc_RRI, sh_RRI, sc_RRR, sh_RRR, sc_RIR, sh_RIR, sc_RIRI, sh_RIRI, sc_RRII, sh_RRII, sc_RRIII, sh_RRIII, sc_RIIRR, sh_RIIRR, sc_RIIIRR, sh_RIIIRR, sc_RIIR, sh_RIIR, sc_RRIIR, sh_RRIIR, sc_RRIIIR, sh_RRIIIR, sc_RRIIIIR, sh_RRIIIIR, sc_RRIR, sh_RRIR, and_imp, forall_eq, psc, sc_RIIIII, sh_RIIIII]
    exact ⟨100, by omega, may, 0, o3, o4, o5, o8, o9, by omega, by omega, by omega, hy, c, rfl, rfl, by omega, by omega⟩
  | 7, hI =>
    obtain ⟨may, r, o3, o4, o5, o8, o9, r0, r1, hm, hy, c, rfl, rfl, hk, hz⟩ := hI
    have X1 := CX_t hX c
    simp only [spL_isSetSo, vcL_isSetSo, mL_isSetSo, spX8_isPossible, spL_does, ac_ent, ldI, ldR, stI, stR, inc, cI, cJ, cN, bop, oAdd, oSub, oMul, oAnd, oOr, oXor, oShl, oShr, oUshr, oRem, oDiv, oMx, oMn, oI2l, oLcmp, oDup, oDup2, oDupX1, oPop, bIc, bI0, bNul, getI, getR, putI, putZ, putR, aLen, aldI, aldZ, aldJ, aldR, astI, astZ, astJ, astR, nwO, nwA, gsT, oObj, oCpy, oCln, oCst, rtI, rtZ, rtR, rtV, thr, call, callH, ac_hsel, ac_as, ac_rs, ac_cs, ac_rcv, List.map_cons, List.map_nil, List.length_cons, List.length_nil, List.replicate, List.append_nil, List.cons_append, List.nil_append, List.getElem?_cons_zero, List.getElem?_cons_succ, List.set, Nat.zero_add, Nat.add_zero, Nat.le_refl, Nat.reduceAdd, Nat.reduceSub, Nat.reduceLeDiff, Int.reduceLT, Int.reduceLE, Int.reduceNeg, Int.reduceEq, true_and, and_true, true_or, or_true, not_true_eq_false, not_false_eq_true, false_implies, true_implies, implies_true, reduceIte, and_self, Int.reduceAdd, Int.reduceMul, Int.reduceSub, eq_self, Int.add_zero, Int.zero_add, String.reduceEq, Nat.zero_le, Option.some.injEq, Sum.inl.injEq, Sum.inr.injEq, reduceCtorEq, Int.reduceToNat, Option.toList_some, Option.toList_none, ac_cs, ac_c10, ac_c11, ac_c12, ac_c13, ac_c14, ac_c15, ac_c16, ac_c17, sc_E, sh_E, sc_I, sh_I, sc_II, sh_II, sc_III, sh_III, sc_R, sh_R, sc_RI, sh_RI, sc_RII, sh_RII, sc_RIII, sh_RIII, sc_RIIII, sh_RIIII, sc_RR, sh_RR, sc_RRI, sh_RRI, sc_RRR, sh_RRR, sc_RIR, sh_RIR, sc_RIRI, sh_RIRI, sc_RRII, sh_RRII, sc_RRIII, sh_RRIII, sc_RIIRR, sh_RIIRR, sc_RIIIRR, sh_RIIIRR, sc_RIIR, sh_RIIR, sc_RRIIR, sh_RRIIR, sc_RRIIIR, sh_RRIIIR, sc_RRIIIIR, sh_RRIIIIR, sc_RRIR, sh_RRIR, X1, and_imp, forall_eq, psc, sc_RIIIII, sh_RIIIII]
    refine ⟨fun q => ⟨c, by omega, by omega⟩, fun q => ⟨⟨by omega, by omega⟩, ?_⟩⟩
    intro v g2 w2
    obtain ⟨y, rfl, ey, c2⟩ := dz8 c w2
    simp only [ac_ent, ldI, ldR, stI, stR, inc, cI, cJ, cN, bop, oAdd, oSub, oMul, oAnd, oOr, oXor, oShl, oShr, oUshr, oRem, oDiv, oMx, oMn, oI2l, oLcmp, oDup, oDup2, oDupX1, oPop, bIc, bI0, bNul, getI, getR, putI, putZ, putR, aLen, aldI, aldZ, aldJ, aldR, astI, astZ, astJ, astR, nwO, nwA, gsT, oObj, oCpy, oCln, oCst, rtI, rtZ, rtR, rtV, thr, call, callH, ac_hsel, ac_as, ac_rs, ac_cs, ac_rcv, List.map_cons, List.map_nil, List.length_cons, List.length_nil, List.replicate, List.append_nil, List.cons_append, List.nil_append, List.getElem?_cons_zero, List.getElem?_cons_succ, List.set, Nat.zero_add, Nat.add_zero, Nat.le_refl, Nat.reduceAdd, Nat.reduceSub, Nat.reduceLeDiff, Int.reduceLT, Int.reduceLE, Int.reduceNeg, Int.reduceEq, true_and, and_true, true_or, or_true, not_true_eq_false, not_false_eq_true, false_implies, true_implies, implies_true, reduceIte, and_self, Int.reduceAdd, Int.reduceMul, Int.reduceSub, eq_self, Int.add_zero, Int.zero_add, String.reduceEq, Nat.zero_le, Option.some.injEq, Sum.inl.injEq, Sum.inr.injEq, reduceCtorEq, Int.reduceToNat, Option.toList_some, Option.toList_none, ac_cs, ac_c10, ac_c11, ac_c12, ac_c13, ac_c14, ac_c15, ac_c16, ac_c17, sc_E, sh_E, sc_I, sh_I, sc_II, sh_II, sc_III, sh_III, sc_R, sh_R, sc_RI, sh_RI, sc_RII, sh_RII, sc_RIII, sh_RIII, sc_RIIII, sh_RIIII, sc_RR, sh_RR, sc_RRI, sh_RRI, sc_RRR, sh_RRR, sc_RIR, sh_RIR, sc_RIRI, sh_RIRI, sc_RRII, sh_RRII, sc_RRIII, sh_RRIII, sc_RIIRR, sh_RIIRR, sc_RIIIRR, sh_RIIIRR, sc_RIIR, sh_RIIR, sc_RRIIR, sh_RRIIR, sc_RRIIIR, sh_RRIIIR, sc_RRIIIIR, sh_RRIIIIR, sc_RRIR, sh_RRIR, and_imp, forall_eq, psc, sc_RIIIII, sh_RIIIII]
    have r6 : r < 6 := by omega
    have it : itsI s set r y := by
      by_cases hp : psd s set
      · left
        have a : y = dA 8 set r 0 0 s := ey
        rw [a]
        exact ⟨hp, (f5 r r0 r6).1 hp⟩
      · exact Or.inr ⟨hp, ey.trans ((f5 r r0 r6).2 hp)⟩
    clear ey w2
    have nx : ∀ x, EQ x (ac_tbz 2 r) → ∃ m', m' < m ∧ ivL_isSetSo o set N s h 8 m' [some (.inr (.inl o)), some (.inl set), some (.inl may), o3, o4, o5, some (.inl 1), some (.inl r), some (.inl y), o9] [.inl x] g2 (k + 28) (z + 395) := fun x hx =>
      ⟨(99 - 10 * r).toNat, by omega, may, r, y, x, o3, o4, o5, o9, r0, r6, by omega, hy, it, hx, c2, rfl, rfl, by omega, by omega⟩
    have t2 : ac_tbz 2 r = if r = 2 then 9 else if r = 4 then 50 else if r = 5 then 9 else 20 := rfl
    refine ⟨fun q2 => nx _ ?_, fun q2 => ⟨fun q3 => nx _ ?_, fun q3 => ⟨fun q4 => nx _ ?_, fun q4 => nx _ ?_⟩⟩⟩
    · unfold EQ; rw [t2, q2]; rfl
    · unfold EQ; rw [t2, if_pos q3]
    · unfold EQ; rw [t2, if_neg q3, if_neg q2, if_pos q4]
    · unfold EQ; rw [t2, if_neg q3, if_neg q2, if_neg q4]
  | 8, hI =>
    obtain ⟨may, r, y, x, o3, o4, o5, o9, r0, r1, hm, hy, it, hx, c, rfl, rfl, hk, hz⟩ := hI
    have t1 : ac_tbz 1 r = if r = 2 then 1 else if r = 4 then 1 else 0 := rfl
    rcases hy with ⟨hp, rfl⟩ | ⟨hp, rfl⟩
    · have i2 : ac_tbz 1 r ≤ y ∧ y ≤ x := by
        rcases it with ⟨-, a, b⟩ | ⟨a, -⟩
        · have e : x = ac_tbz 2 r := hx
          rw [e]; exact ⟨a, b⟩
        · exact absurd hp a
      simp only [spL_isSetSo, vcL_isSetSo, mL_isSetSo, spX8_isPossible, spL_does, ac_ent, ldI, ldR, stI, stR, inc, cI, cJ, cN, bop, oAdd, oSub, oMul, oAnd, oOr, oXor, oShl, oShr, oUshr, oRem, oDiv, oMx, oMn, oI2l, oLcmp, oDup, oDup2, oDupX1, oPop, bIc, bI0, bNul, getI, getR, putI, putZ, putR, aLen, aldI, aldZ, aldJ, aldR, astI, astZ, astJ, astR, nwO, nwA, gsT, oObj, oCpy, oCln, oCst, rtI, rtZ, rtR, rtV, thr, call, callH, ac_hsel, ac_as, ac_rs, ac_cs, ac_rcv, List.map_cons, List.map_nil, List.length_cons, List.length_nil, List.replicate, List.append_nil, List.cons_append, List.nil_append, List.getElem?_cons_zero, List.getElem?_cons_succ, List.set, Nat.zero_add, Nat.add_zero, Nat.le_refl, Nat.reduceAdd, Nat.reduceSub, Nat.reduceLeDiff, Int.reduceLT, Int.reduceLE, Int.reduceNeg, Int.reduceEq, true_and, and_true, true_or, or_true, not_true_eq_false, not_false_eq_true, false_implies, true_implies, implies_true, reduceIte, and_self, Int.reduceAdd, Int.reduceMul, Int.reduceSub, eq_self, Int.add_zero, Int.zero_add, String.reduceEq, Nat.zero_le, Option.some.injEq, Sum.inl.injEq, Sum.inr.injEq, reduceCtorEq, Int.reduceToNat, Option.toList_some, Option.toList_none, ac_cs, ac_c10, ac_c11, ac_c12, ac_c13, ac_c14, ac_c15, ac_c16, ac_c17, sc_E, sh_E, sc_I, sh_I, sc_II, sh_II, sc_III, sh_III, sc_R, sh_R, sc_RI, sh_RI, sc_RII, sh_RII, sc_RIII, sh_RIII, sc_RIIII, sh_RIIII, sc_RR, sh_RR, sc_RRI, sh_RRI, sc_RRR, sh_RRR, sc_RIR, sh_RIR, sc_RIRI, sh_RIRI, sc_RRII, sh_RRII, sc_RRIII, sh_RRIII, sc_RIIRR, sh_RIIRR, sc_RIIIRR, sh_RIIIRR, sc_RIIR, sh_RIIR, sc_RRIIR, sh_RRIIR, sc_RRIIIR, sh_RRIIIR, sc_RRIIIIR, sh_RRIIIIR, sc_RRIR, sh_RRIR, and_imp, forall_eq, psc, sc_RIIIII, sh_RIIIII]
      have nx : ∀ w, w = ac_tbz 1 r → ∃ m', m' < m ∧ ivL_isSetSo o set N s h 9 m' [some (.inr (.inl o)), some (.inl set), some (.inl 1), o3, o4, o5, some (.inl 1), some (.inl r), some (.inl y), some (.inl x)] [.inl w, .inl y] g k z := fun w hw =>
        ⟨(98 - 10 * r).toNat, by omega, 1, r, y, x, w, o3, o4, o5, r0, r1, by omega, by rw [hw]; exact i2.1, i2.2, Or.inl ⟨hp, rfl⟩, c, rfl, rfl, hk, hz⟩
      refine ⟨fun q2 => nx _ ?_, fun q2 => ⟨fun q3 => nx _ ?_, fun q3 => nx _ ?_⟩⟩
      · rw [t1, if_pos q2]
      · rw [t1, if_neg q2, if_pos q3]
      · rw [t1, if_neg q2, if_neg q3]
    · have ey : y = -9999999 := by
        rcases it with ⟨a, -⟩ | ⟨-, a⟩
        · exact absurd a hp
        · exact a
      subst ey
      simp only [spL_isSetSo, vcL_isSetSo, mL_isSetSo, spX8_isPossible, spL_does, ac_ent, ldI, ldR, stI, stR, inc, cI, cJ, cN, bop, oAdd, oSub, oMul, oAnd, oOr, oXor, oShl, oShr, oUshr, oRem, oDiv, oMx, oMn, oI2l, oLcmp, oDup, oDup2, oDupX1, oPop, bIc, bI0, bNul, getI, getR, putI, putZ, putR, aLen, aldI, aldZ, aldJ, aldR, astI, astZ, astJ, astR, nwO, nwA, gsT, oObj, oCpy, oCln, oCst, rtI, rtZ, rtR, rtV, thr, call, callH, ac_hsel, ac_as, ac_rs, ac_cs, ac_rcv, List.map_cons, List.map_nil, List.length_cons, List.length_nil, List.replicate, List.append_nil, List.cons_append, List.nil_append, List.getElem?_cons_zero, List.getElem?_cons_succ, List.set, Nat.zero_add, Nat.add_zero, Nat.le_refl, Nat.reduceAdd, Nat.reduceSub, Nat.reduceLeDiff, Int.reduceLT, Int.reduceLE, Int.reduceNeg, Int.reduceEq, true_and, and_true, true_or, or_true, not_true_eq_false, not_false_eq_true, false_implies, true_implies, implies_true, reduceIte, and_self, Int.reduceAdd, Int.reduceMul, Int.reduceSub, eq_self, Int.add_zero, Int.zero_add, String.reduceEq, Nat.zero_le, Option.some.injEq, Sum.inl.injEq, Sum.inr.injEq, reduceCtorEq, Int.reduceToNat, Option.toList_some, Option.toList_none, ac_cs, ac_c10, ac_c11, ac_c12, ac_c13, ac_c14, ac_c15, ac_c16, ac_c17, sc_E, sh_E, sc_I, sh_I, sc_II, sh_II, sc_III, sh_III, sc_R, sh_R, sc_RI, sh_RI, sc_RII, sh_RII, sc_RIII, sh_RIII, sc_RIIII, sh_RIIII, sc_RR, sh_RR, sc_RRI, sh_RRI, sc_RRR, sh_RRR, sc_RIR, sh_RIR, sc_RIRI, sh_RIRI, sc_RRII, sh_RRII, sc_RRIII, sh_RRIII, sc_RIIRR, sh_RIIRR, sc_RIIIRR, sh_RIIIRR, sc_RIIR, sh_RIIR, sc_RRIIR, sh_RRIIR, sc_RRIIIR, sh_RRIIIR, sc_RRIIIIR, sh_RRIIIIR, sc_RRIR, sh_RRIR, and_imp, forall_eq, psc, sc_RIIIII, sh_RIIIII]
      exact ⟨(97 - 10 * r).toNat, by omega, 0, r, o3, o4, o5, _, _, r0, r1, by omega, Or.inr ⟨hp, rfl⟩, c, rfl, rfl, hk, hz⟩
  | 9, hI =>
    obtain ⟨may, r, y, x, w, o3, o4, o5, r0, r1, hm, w1, w2, hy, c, rfl, rfl, hk, hz⟩ := hI
    simp only [spL_isSetSo, vcL_isSetSo, mL_isSetSo, spX8_isPossible, spL_does, ac_ent, ldI, ldR, stI, stR, inc, cI, cJ, cN, bop, oAdd, oSub, oMul, oAnd, oOr, oXor, oShl, oShr, oUshr, oRem, oDiv, oMx, oMn, oI2l, oLcmp, oDup, oDup2, oDupX1, oPop, bIc, bI0, bNul, getI, getR, putI, putZ, putR, aLen, aldI, aldZ, aldJ, aldR, astI, astZ, astJ, astR, nwO, nwA, gsT, oObj, oCpy, oCln, oCst, rtI, rtZ, rtR, rtV, thr, call, callH, ac_hsel, ac_as, ac_rs, ac_cs, ac_rcv, List.map_cons, List.map_nil, List.length_cons, List.length_nil, List.replicate, List.append_nil, List.cons_append, List.nil_append, List.getElem?_cons_zero, List.getElem?_cons_succ, List.set, Nat.zero_add, Nat.add_zero, Nat.le_refl, Nat.reduceAdd, Nat.reduceSub, Nat.reduceLeDiff, Int.reduceLT, Int.reduceLE, Int.reduceNeg, Int.reduceEq, true_and, and_true, true_or, or_true, not_true_eq_false, not_false_eq_true, false_implies, true_implies, implies_true, reduceIte, and_self, Int.reduceAdd, Int.reduceMul, Int.reduceSub, eq_self, Int.add_zero, Int.zero_add, String.reduceEq, Nat.zero_le, Option.some.injEq, Sum.inl.injEq, Sum.inr.injEq, reduceCtorEq, Int.reduceToNat, Option.toList_some, Option.toList_none, ac_cs, ac_c10, ac_c11, ac_c12, ac_c13, ac_c14, ac_c15, ac_c16, ac_c17, sc_E, sh_E, sc_I, sh_I, sc_II, sh_II, sc_III, sh_III, sc_R, sh_R, sc_RI, sh_RI, sc_RII, sh_RII, sc_RIII, sh_RIII, sc_RIIII, sh_RIIII, sc_RR, sh_RR, sc_RRI, sh_RRI, sc_RRR, sh_RRR, sc_RIR, sh_RIR, sc_RIRI, sh_RIRI, sc_RRII, sh_RRII, sc_RRIII, sh_RRIII, sc_RIIRR, sh_RIIRR, sc_RIIIRR, sh_RIIIRR, sc_RIIR, sh_RIIR, sc_RRIIR, sh_RRIIR, sc_RRIIIR, sh_RRIIIR, sc_RRIIIIR, sh_RRIIIIR, sc_RRIR, sh_RRIR, and_imp, forall_eq, psc, sc_RIIIII, sh_RIIIII]
    refine ⟨fun q => by omega, fun q => ⟨fun q2 => by omega, fun q2 => ?_⟩⟩
    exact ⟨(97 - 10 * r).toNat, by omega, may, r, o3, o4, o5, _, _, r0, r1, by omega, hy, c, rfl, rfl, hk, hz⟩
  | 10, hI => exact hI.elim
  | 11, hI => exact hI.elim
  | 12, hI =>
    obtain ⟨may, r, o3, o4, o5, o8, o9, r0, r1, hm, hy, c, rfl, rfl, hk, hz⟩ := hI
    simp only [spL_isSetSo, vcL_isSetSo, mL_isSetSo, spX8_isPossible, spL_does, ac_ent, ldI, ldR, stI, stR, inc, cI, cJ, cN, bop, oAdd, oSub, oMul, oAnd, oOr, oXor, oShl, oShr, oUshr, oRem, oDiv, oMx, oMn, oI2l, oLcmp, oDup, oDup2, oDupX1, oPop, bIc, bI0, bNul, getI, getR, putI, putZ, putR, aLen, aldI, aldZ, aldJ, aldR, astI, astZ, astJ, astR, nwO, nwA, gsT, oObj, oCpy, oCln, oCst, rtI, rtZ, rtR, rtV, thr, call, callH, ac_hsel, ac_as, ac_rs, ac_cs, ac_rcv, List.map_cons, List.map_nil, List.length_cons, List.length_nil, List.replicate, List.append_nil, List.cons_append, List.nil_append, List.getElem?_cons_zero, List.getElem?_cons_succ, List.set, Nat.zero_add, Nat.add_zero, Nat.le_refl, Nat.reduceAdd, Nat.reduceSub, Nat.reduceLeDiff, Int.reduceLT, Int.reduceLE, Int.reduceNeg, Int.reduceEq, true_and, and_true, true_or, or_true, not_true_eq_false, not_false_eq_true, false_implies, true_implies, implies_true, reduceIte, and_self, Int.reduceAdd, Int.reduceMul, Int.reduceSub, eq_self, Int.add_zero, Int.zero_add, String.reduceEq, Nat.zero_le, Option.some.injEq, Sum.inl.injEq, Sum.inr.injEq, reduceCtorEq, Int.reduceToNat, Option.toList_some, Option.toList_none, ac_cs, ac_c10, ac_c11, ac_c12, ac_c13, ac_c14, ac_c15, ac_c16, ac_c17, sc_E, sh_E, sc_I, sh_I, sc_II, sh_II, sc_III, sh_III, sc_R, sh_R, sc_RI, sh_RI, sc_RII, sh_RII, sc_RIII, sh_RIII, sc_RIIII, sh_RIIII, sc_RR, sh_RR, sc_RRI, sh_RRI, sc_RRR, sh_RRR, sc_RIR, sh_RIR, sc_RIRI, sh_RIRI, sc_RRII, sh_RRII, sc_RRIII, sh_RRIII, sc_RIIRR, sh_RIIRR, sc_RIIIRR, sh_RIIIRR, sc_RIIR, sh_RIIR, sc_RRIIR, sh_RRIIR, sc_RRIIIR, sh_RRIIIR, sc_RRIIIIR, sh_RRIIIIR, sc_RRIR, sh_RRIR, and_imp, forall_eq, psc, sc_RIIIII, sh_RIIIII]
    exact ⟨(100 - 10 * (r + 1)).toNat, by omega, may, r + 1, o3, o4, o5, o8, o9, by omega, by omega, by omega, hy, c, by rw [wr_of (by omega) (by omega)], rfl, hk, hz⟩
  | j + 13, hI => exact hI.elim
