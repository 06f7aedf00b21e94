/-! ===== what happens by a cell ===== -/
abbrev aOd (v : Int) : Prop := iand (ishr v 18) 7 = 7
def aPk (v n : Int) : Int := if aOd v then wr (lw (ishr v 6) 14 - 2) else lw (ishr v 6) (wr (n + 1))
/-- the call that a cell asks for: how, x, y, z, u -/
def aC (v n r : Int) : Int × Int × Int × Int × Int :=
  if lw v 36 < 3 then (0, 0, 0, 0, 0)
  else if lw v 36 < 8 then (1, aPk v n, (if aOd v then wr (lw (ishr v 9) 8 - 1) else lw (ishr v 9) 6), iand (ishr v 13) 1, (if aOd v then wr (lw (ishr v 12) 60 - 30) else wr (lw (ishr v 12) 10 - 3)))
  else if lw v 36 < 11 then (if lw v 36 < 9 then (2, aPk v n, 0, 0, 0) else (3, aPk v n, (if aOd v then iand (ishr v 9) 2047 else if 0 < aPk v n ∧ aPk v n < 11 then iand (ishr v 9) (wr (ishl 1 (aPk v n) - 1)) else 0), 0, 0))
  else if lw v 36 < 15 then (4, (if aOd v then wr (lw (ishr v 6) 70000 - 99) else lw (ishr v 6) (if iand (ishr v 16) 1 = 0 then 65536 else 3)), (if aOd v then iand (ishr v 8) 2047 else iand (ishr v 8) (wr (ishl 1 n - 1))), 0, 0)
  else if lw v 36 < 26 then (5, (if aOd v then wr (lw (ishr v 6) 9 - 1) else lw (ishr v 6) 6), 0, 0, 0)
  else if lw v 36 < 31 then (6, (if aOd v then wr (lw (ishr v 6) 12 - 2) else lw (ishr v 6) 8), (if aOd v then wr (lw (ishr v 10) 1300 - 150) else wr (lw (ishr v 10) 8 - 2)), 0, 0)
  else (7, (if aOd v then wr (lw (ishr v 6) 70 - 3) else lw (ishr v 6) (wr (r + 1))), 0, 0, 0)
def aA (v : Int) (s : sS) : Int := if lw v 36 < 35 then dA (aC v (s 0 0 0) (s 18 0 0)).1 (aC v (s 0 0 0) (s 18 0 0)).2.1 (aC v (s 0 0 0) (s 18 0 0)).2.2.1 (aC v (s 0 0 0) (s 18 0 0)).2.2.2.1 (aC v (s 0 0 0) (s 18 0 0)).2.2.2.2 s else if iand (ishr v 6) 3 = 0 then s 9 0 0 else s 18 0 0
noncomputable def aN (v : Int) (s : sS) : sS := if lw v 36 < 35 then dN (aC v (s 0 0 0) (s 18 0 0)).1 (aC v (s 0 0 0) (s 18 0 0)).2.1 (aC v (s 0 0 0) (s 18 0 0)).2.2.1 (aC v (s 0 0 0) (s 18 0 0)).2.2.2.1 (aC v (s 0 0 0) (s 18 0 0)).2.2.2.2 s else if iand (ishr v 6) 3 = 0 then FWipe s else s
/-- what a call without a change answers -/
theorem id_c {o : Int} {h g : ac_H} {v : Option ac_V} {vl : sS → Int} (hX : CX h o) (w : OKc o h g v (fun _ => 0) vl id) : ∃ n, v = some (.inl n) ∧ (∀ Z s, FZ Z h o s → n = vl s) ∧ CZ o h g ∧ CX g o := by
  obtain ⟨s, hs⟩ := hX
  obtain ⟨-, e, -, -⟩ := FZ_c hs w (fun _ h _ => h)
  refine ⟨vl s, e, fun Z s2 q => ?_, CZ_c w, s, CZ_X (CZ_c w) hs⟩
  obtain ⟨-, e2, -, -⟩ := FZ_c q w (fun _ h _ => h)
  rw [e] at e2
  exact Sum.inl.inj (Option.some.inj e2)
theorem act_d {o v n r how x y z u : Int} {h g g' : ac_H} {w : Option ac_V} (c : CZ o h g) (hn : ∀ Z s, FZ Z h o s → n = s 0 0 0) (hr : ∀ Z s, FZ Z h o s → r = s 18 0 0) (k : lw v 36 < 35) (e : aC v n r = (how, x, y, z, u)) (d : OKz o g g' w (dA how x y z u) (dN how x y z u)) : OKz o h g' w (aA v) (aN v) := by
  intro Z s q
  obtain ⟨q1, q2⟩ := c Z s q
  obtain ⟨d1, d2, d3⟩ := d Z s q1
  have e2 : aC v (s 0 0 0) (s 18 0 0) = (how, x, y, z, u) := by rw [← hn Z s q, ← hr Z s q]; exact e
  unfold aA aN
  rw [if_pos k, if_pos k, e2]
  exact ⟨d1, d2, KZ_tr q2 d3⟩
noncomputable def spL_act : ac_Sp := sc_RI (fun o v h => CX h o) (fun o v h w h' => OKz o h h' w (aA v) (aN v)) (fun _ _ _ _ _ => False)
/-- how many runs there are, as a number -/
theorem run_n {h : ac_H} {o : Int} (hX : CX h o) : ∃ r, ∀ Z s, FZ Z h o s → r = s 18 0 0 := by
  refine ⟨h 909 o 0, fun Z s q => ?_⟩
  obtain ⟨ad, hR, -⟩ := q
  exact (RC_90 hR).2.2.2.2.2
theorem CX_t {o : Int} {h g : ac_H} (hX : CX h o) (c : CZ o h g) : CX g o := by
  obtain ⟨s, hs⟩ := hX
  exact ⟨s, CZ_X c hs⟩
theorem FZ_S {Z : Int → Prop} {h : ac_H} {o : Int} {s : sS} (q : FZ Z h o s) : SI s := by
  obtain ⟨ad, -, hX, -⟩ := q
  exact hX.1
theorem CX_S {h : ac_H} {o : Int} (hX : CX h o) {n : Int} (hn : ∀ Z s, FZ Z h o s → n = s 0 0 0) {r : Int} (hr : ∀ Z s, FZ Z h o s → r = s 18 0 0) : (0 ≤ n ∧ n ≤ 10) ∧ 0 ≤ r ∧ r ≤ 60 := by
  obtain ⟨s, q⟩ := hX
  have hS := FZ_S q
  rw [hn _ s q, hr _ s q]
  exact ⟨hS.1, hS.2.2.2.2.2.2.2.2.2.2.2.1⟩
theorem pk_n {h : ac_H} {o : Int} (hX : CX h o) : ∃ n, ∀ Z s, FZ Z h o s → n = s 0 0 0 := by
  refine ⟨h 601 (h 900 o 0) 0, fun Z s q => ?_⟩
  obtain ⟨ad, hR, -⟩ := q
  exact (RC_nd hR).1
theorem dz_v {o : Int} {h g : ac_H} {w : Option ac_V} {vl : sS → Int} {F : sS → sS} (hX : CX h o) (d : OKz o h g w vl F) : ∃ x, w = some (.inl x) := by
  obtain ⟨s, q⟩ := hX
  exact ⟨_, (d _ s q).1⟩
def ivL_act (o v n r : Int) (h : ac_H) : Nat → Nat → ac_S := fun j m => match j with
  | 0 => fun L S g k z => m = 3 ∧ ent0 [some (.inr (.inl o)), some (.inl v), none, none, none, none] h L S g k z
  | 1 => fun L S g k z => ∃ od, m = 2 ∧ ((od = 1 ∧ aOd v) ∨ (od = 0 ∧ ¬ aOd v)) ∧ L = [some (.inr (.inl o)), some (.inl v), none, none, none, none] ∧ S = [.inl od] ∧ g = h ∧ k = 0 ∧ z = 0
  | 2 => fun L S g k z => ∃ od, m = 1 ∧ ((od = 1 ∧ aOd v) ∨ (od = 0 ∧ ¬ aOd v)) ∧ CZ o h g ∧ L = [some (.inr (.inl o)), some (.inl v), some (.inl od), some (.inl (lw v 36)), none, none] ∧ S = [.inl (aPk v n)] ∧ k = 0 ∧ z = 0
  | 3 => fun L S g k z => ∃ od, m = 0 ∧ ((od = 1 ∧ aOd v) ∨ (od = 0 ∧ ¬ aOd v)) ∧ CZ o h g ∧ L = [some (.inr (.inl o)), some (.inl v), some (.inl od), some (.inl (lw v 36)), some (.inl (aPk v n)), some (.inl (wr (ishl 1 n - 1)))] ∧ S = [] ∧ k = 0 ∧ z = 0
  | _ => fun _ _ _ _ _ => False
set_option maxRecDepth 100000 in
set_option maxHeartbeats 4000000 in
theorem mtL_act {G : ac_G} {l : Launch} : ac_Met G l yL_act mL_act 9 194 28 395 spL_act := by
  refine ac_meth (pcs := pcL_act) (B := fun P X J j => vcL_act spL_low spX8_packs spL_does spX8_runs spX8_wipe P X J j) (by decide) rfl rfl rfl (fun P X J hJ j => sdL_act mtL_low mtX8_packs mtL_does mtX8_runs mtX8_wipe P X J hJ j) (hp_RI (by decide)) fun As h hp => ?_
  obtain ⟨o, v, rfl, hp⟩ := sh_RI_inv hp
  have hX : CX h o := hp
  obtain ⟨r, hr⟩ := run_n hX
  obtain ⟨n, hn⟩ := pk_n hX
  obtain ⟨hn2, hr2⟩ := CX_S hX hn hr
  have pk : ∀ {g v g' w}, CZ o h g → OKc o g g' w (fun _ => 0) v id → (v = fun s => s 0 0 0) → w = some (.inl n) ∧ CZ o h g' ∧ CX g' o := fun {g v g' w} c w e => by
    obtain ⟨n', e1, e2, e3, e4⟩ := id_c (CX_t hX c) w
    refine ⟨?_, CZ_tr c e3, e4⟩
    obtain ⟨s, q⟩ := hX
    rw [e1, e2 _ s (CZ_X c q), e, hn _ s q]
  have fin : ∀ {g g' : ac_H} {how x y z u : Int} {w : Option ac_V}, CZ o h g → lw v 36 < 35 → aC v n r = (how, x, y, z, u) → OKz o g g' w (dA how x y z u) (dN how x y z u) → OKz o h g' w (aA v) (aN v) := fun c k e d => act_d c hn hr k e d
  refine ⟨ivL_act o v n r h, 3, ⟨rfl, rfl, rfl, rfl, rfl, rfl⟩, fun j m L S g k z hI => ?_⟩
  match j, hI with
  | 0, hI =>
    obtain ⟨hm, rfl, rfl, rfl, rfl, rfl⟩ := hI
    simp only [spL_act, vcL_act, mL_act, spL_low, spX8_packs, spL_does, spX8_runs, spX8_wipe, ac_ent, ldI, ldR, stI, stR, inc, cI, cJ, cN, bop, oAdd, oSub, oMul, oAnd, oOr, oXor, oShl, oShr, oUshr, oRem, oDiv, oMx, oMn, oI2l, oLcmp, oDup, oDup2, oDupX1, oPop, bIc, bI0, bNul, getI, getR, putI, putZ, putR, aLen, aldI, aldZ, aldJ, aldR, astI, astZ, astJ, astR, nwO, nwA, gsT, oObj, oCpy, oCln, oCst, rtI, rtZ, rtR, rtV, thr, call, callH, ac_hsel, ac_as, ac_rs, ac_cs, ac_rcv, List.map_cons, List.map_nil, List.length_cons, List.length_nil, List.replicate, List.append_nil, List.cons_append, List.nil_append, List.getElem?_cons_zero, List.getElem?_cons_succ, List.set, Nat.zero_add, Nat.add_zero, Nat.le_refl, Nat.reduceAdd, Nat.reduceSub, Nat.reduceLeDiff, Int.reduceLT, Int.reduceLE, Int.reduceNeg, Int.reduceEq, true_and, and_true, true_or, or_true, not_true_eq_false, not_false_eq_true, false_implies, true_implies, implies_true, reduceIte, and_self, Int.reduceAdd, Int.reduceMul, Int.reduceSub, eq_self, Int.add_zero, Int.zero_add, String.reduceEq, Nat.zero_le, Option.some.injEq, Sum.inl.injEq, Sum.inr.injEq, reduceCtorEq, Int.reduceToNat, Option.toList_some, Option.toList_none, ac_cs, ac_c10, ac_c11, ac_c12, ac_c13, ac_c14, ac_c15, ac_c16, ac_c17, sc_E, sh_E, sc_I, sh_I, sc_II, sh_II, sc_III, sh_III, sc_R, sh_R, sc_RI, sh_RI, sc_RII, sh_RII, sc_RIII, sh_RIII, sc_RIIII, sh_RIIII, sc_RR, sh_RR, sc_RRI, sh_RRI, sc_RRR, sh_RRR, sc_RIR, sh_RIR, sc_RIRI, sh_RIRI, sc_RRII, sh_RRII, sc_RRIII, sh_RRIII, sc_RIIRR, sh_RIIRR, sc_RIIIRR, sh_RIIIRR, sc_RIIR, sh_RIIR, sc_RRIIR, sh_RRIIR, sc_RRIIIR, sh_RRIIIR, sc_RRIIIIR, sh_RRIIIIR, sc_RRIR, sh_RRIR, and_imp, forall_eq, psc, sc_RIIIII, sh_RIIIII]
    exact ⟨fun q => ⟨2, by omega, 1, rfl, Or.inl ⟨rfl, q⟩, rfl, rfl, rfl, rfl, rfl⟩, fun q => ⟨2, by omega, 0, rfl, Or.inr ⟨rfl, q⟩, rfl, rfl, rfl, rfl, rfl⟩⟩
  | 1, hI =>
    obtain ⟨od, hm, ho, rfl, rfl, rfl, rfl, rfl⟩ := hI
    obtain ⟨hW, h1⟩ := CX_W hX
    rcases ho with ⟨rfl, ho⟩ | ⟨rfl, ho⟩
    · simp only [spL_act, vcL_act, mL_act, spL_low, spX8_packs, spL_does, spX8_runs, spX8_wipe, ac_ent, ldI, ldR, stI, stR, inc, cI, cJ, cN, bop, oAdd, oSub, oMul, oAnd, oOr, oXor, oShl, oShr, oUshr, oRem, oDiv, oMx, oMn, oI2l, oLcmp, oDup, oDup2, oDupX1, oPop, bIc, bI0, bNul, getI, getR, putI, putZ, putR, aLen, aldI, aldZ, aldJ, aldR, astI, astZ, astJ, astR, nwO, nwA, gsT, oObj, oCpy, oCln, oCst, rtI, rtZ, rtR, rtV, thr, call, callH, ac_hsel, ac_as, ac_rs, ac_cs, ac_rcv, List.map_cons, List.map_nil, List.length_cons, List.length_nil, List.replicate, List.append_nil, List.cons_append, List.nil_append, List.getElem?_cons_zero, List.getElem?_cons_succ, List.set, Nat.zero_add, Nat.add_zero, Nat.le_refl, Nat.reduceAdd, Nat.reduceSub, Nat.reduceLeDiff, Int.reduceLT, Int.reduceLE, Int.reduceNeg, Int.reduceEq, true_and, and_true, true_or, or_true, not_true_eq_false, not_false_eq_true, false_implies, true_implies, implies_true, reduceIte, and_self, Int.reduceAdd, Int.reduceMul, Int.reduceSub, eq_self, Int.add_zero, Int.zero_add, String.reduceEq, Nat.zero_le, Option.some.injEq, Sum.inl.injEq, Sum.inr.injEq, reduceCtorEq, Int.reduceToNat, Option.toList_some, Option.toList_none, ac_cs, ac_c10, ac_c11, ac_c12, ac_c13, ac_c14, ac_c15, ac_c16, ac_c17, sc_E, sh_E, sc_I, sh_I, sc_II, sh_II, sc_III, sh_III, sc_R, sh_R, sc_RI, sh_RI, sc_RII, sh_RII, sc_RIII, sh_RIII, sc_RIIII, sh_RIIII, sc_RR, sh_RR, sc_RRI, sh_RRI, sc_RRR, sh_RRR, sc_RIR, sh_RIR, sc_RIRI, sh_RIRI, sc_RRII, sh_RRII, sc_RRIII, sh_RRIII, sc_RIIRR, sh_RIIRR, sc_RIIIRR, sh_RIIIRR, sc_RIIR, sh_RIIR, sc_RRIIR, sh_RRIIR, sc_RRIIIR, sh_RRIIIR, sc_RRIIIIR, sh_RRIIIIR, sc_RRIR, sh_RRIR, and_imp, forall_eq, psc, sc_RIIIII, sh_RIIIII]
      exact ⟨1, by omega, 1, rfl, Or.inl ⟨rfl, ho⟩, CZ_rf _ _, rfl, by rw [aPk, if_pos ho], rfl, rfl⟩
    · simp only [spL_act, vcL_act, mL_act, spL_low, spX8_packs, spL_does, spX8_runs, spX8_wipe, ac_ent, ldI, ldR, stI, stR, inc, cI, cJ, cN, bop, oAdd, oSub, oMul, oAnd, oOr, oXor, oShl, oShr, oUshr, oRem, oDiv, oMx, oMn, oI2l, oLcmp, oDup, oDup2, oDupX1, oPop, bIc, bI0, bNul, getI, getR, putI, putZ, putR, aLen, aldI, aldZ, aldJ, aldR, astI, astZ, astJ, astR, nwO, nwA, gsT, oObj, oCpy, oCln, oCst, rtI, rtZ, rtR, rtV, thr, call, callH, ac_hsel, ac_as, ac_rs, ac_cs, ac_rcv, List.map_cons, List.map_nil, List.length_cons, List.length_nil, List.replicate, List.append_nil, List.cons_append, List.nil_append, List.getElem?_cons_zero, List.getElem?_cons_succ, List.set, Nat.zero_add, Nat.add_zero, Nat.le_refl, Nat.reduceAdd, Nat.reduceSub, Nat.reduceLeDiff, Int.reduceLT, Int.reduceLE, Int.reduceNeg, Int.reduceEq, true_and, and_true, true_or, or_true, not_true_eq_false, not_false_eq_true, false_implies, true_implies, implies_true, reduceIte, and_self, Int.reduceAdd, Int.reduceMul, Int.reduceSub, eq_self, Int.add_zero, Int.zero_add, String.reduceEq, Nat.zero_le, Option.some.injEq, Sum.inl.injEq, Sum.inr.injEq, reduceCtorEq, Int.reduceToNat, Option.toList_some, Option.toList_none, ac_cs, ac_c10, ac_c11, ac_c12, ac_c13, ac_c14, ac_c15, ac_c16, ac_c17, sc_E, sh_E, sc_I, sh_I, sc_II, sh_II, sc_III, sh_III, sc_R, sh_R, sc_RI, sh_RI, sc_RII, sh_RII, sc_RIII, sh_RIII, sc_RIIII, sh_RIIII, sc_RR, sh_RR, sc_RRI, sh_RRI, sc_RRR, sh_RRR, sc_RIR, sh_RIR, sc_RIRI, sh_RIRI, sc_RRII, sh_RRII, sc_RRIII, sh_RRIII, sc_RIIRR, sh_RIIRR, sc_RIIIRR, sh_RIIIRR, sc_RIIR, sh_RIIR, sc_RRIIR, sh_RRIIR, sc_RRIIIR, sh_RRIIIR, sc_RRIIIIR, sh_RRIIIIR, sc_RRIR, sh_RRIR, hW, h1, and_imp, forall_eq, psc, sc_RIIIII, sh_RIIIII]
      intro w g' hc
      obtain ⟨rfl, c1, X1⟩ := pk (CZ_rf _ _) hc rfl
      simp only [ac_ent, ldI, ldR, stI, stR, inc, cI, cJ, cN, bop, oAdd, oSub, oMul, oAnd, oOr, oXor, oShl, oShr, oUshr, oRem, oDiv, oMx, oMn, oI2l, oLcmp, oDup, oDup2, oDupX1, oPop, bIc, bI0, bNul, getI, getR, putI, putZ, putR, aLen, aldI, aldZ, aldJ, aldR, astI, astZ, astJ, astR, nwO, nwA, gsT, oObj, oCpy, oCln, oCst, rtI, rtZ, rtR, rtV, thr, call, callH, ac_hsel, ac_as, ac_rs, ac_cs, ac_rcv, List.map_cons, List.map_nil, List.length_cons, List.length_nil, List.replicate, List.append_nil, List.cons_append, List.nil_append, List.getElem?_cons_zero, List.getElem?_cons_succ, List.set, Nat.zero_add, Nat.add_zero, Nat.le_refl, Nat.reduceAdd, Nat.reduceSub, Nat.reduceLeDiff, Int.reduceLT, Int.reduceLE, Int.reduceNeg, Int.reduceEq, true_and, and_true, true_or, or_true, not_true_eq_false, not_false_eq_true, false_implies, true_implies, implies_true, reduceIte, and_self, Int.reduceAdd, Int.reduceMul, Int.reduceSub, eq_self, Int.add_zero, Int.zero_add, String.reduceEq, Nat.zero_le, Option.some.injEq, Sum.inl.injEq, Sum.inr.injEq, reduceCtorEq, Int.reduceToNat, Option.toList_some, Option.toList_none, ac_cs, ac_c10, ac_c11, ac_c12, ac_c13, ac_c14, ac_c15, ac_c16, ac_c17, sc_E, sh_E, sc_I, sh_I, sc_II, sh_II, sc_III, sh_III, sc_R, sh_R, sc_RI, sh_RI, sc_RII, sh_RII, sc_RIII, sh_RIII, sc_RIIII, sh_RIIII, sc_RR, sh_RR, sc_RRI, sh_RRI, sc_RRR, sh_RRR, sc_RIR, sh_RIR, sc_RIRI, sh_RIRI, sc_RRII, sh_RRII, sc_RRIII, sh_RRIII, sc_RIIRR, sh_RIIRR, sc_RIIIRR, sh_RIIIRR, sc_RIIR, sh_RIIR, sc_RRIIR, sh_RRIIR, sc_RRIIIR, sh_RRIIIR, sc_RRIIIIR, sh_RRIIIIR, sc_RRIR, sh_RRIR, and_imp, forall_eq, psc, sc_RIIIII, sh_RIIIII]
      refine ⟨by rw [wr_of (by omega) (by omega)]; omega, 1, by omega, 0, rfl, Or.inr ⟨rfl, ho⟩, c1, rfl, by rw [aPk, if_neg ho], rfl, rfl⟩
  | 2, hI =>
    obtain ⟨od, hm, ho, c, rfl, rfl, rfl, rfl⟩ := hI
    obtain ⟨hW, h1⟩ := CX_W (CX_t hX c)
    simp only [spL_act, vcL_act, mL_act, spL_low, spX8_packs, spL_does, spX8_runs, spX8_wipe, ac_ent, ldI, ldR, stI, stR, inc, cI, cJ, cN, bop, oAdd, oSub, oMul, oAnd, oOr, oXor, oShl, oShr, oUshr, oRem, oDiv, oMx, oMn, oI2l, oLcmp, oDup, oDup2, oDupX1, oPop, bIc, bI0, bNul, getI, getR, putI, putZ, putR, aLen, aldI, aldZ, aldJ, aldR, astI, astZ, astJ, astR, nwO, nwA, gsT, oObj, oCpy, oCln, oCst, rtI, rtZ, rtR, rtV, thr, call, callH, ac_hsel, ac_as, ac_rs, ac_cs, ac_rcv, List.map_cons, List.map_nil, List.length_cons, List.length_nil, List.replicate, List.append_nil, List.cons_append, List.nil_append, List.getElem?_cons_zero, List.getElem?_cons_succ, List.set, Nat.zero_add, Nat.add_zero, Nat.le_refl, Nat.reduceAdd, Nat.reduceSub, Nat.reduceLeDiff, Int.reduceLT, Int.reduceLE, Int.reduceNeg, Int.reduceEq, true_and, and_true, true_or, or_true, not_true_eq_false, not_false_eq_true, false_implies, true_implies, implies_true, reduceIte, and_self, Int.reduceAdd, Int.reduceMul, Int.reduceSub, eq_self, Int.add_zero, Int.zero_add, String.reduceEq, Nat.zero_le, Option.some.injEq, Sum.inl.injEq, Sum.inr.injEq, reduceCtorEq, Int.reduceToNat, Option.toList_some, Option.toList_none, ac_cs, ac_c10, ac_c11, ac_c12, ac_c13, ac_c14, ac_c15, ac_c16, ac_c17, sc_E, sh_E, sc_I, sh_I, sc_II, sh_II, sc_III, sh_III, sc_R, sh_R, sc_RI, sh_RI, sc_RII, sh_RII, sc_RIII, sh_RIII, sc_RIIII, sh_RIIII, sc_RR, sh_RR, sc_RRI, sh_RRI, sc_RRR, sh_RRR, sc_RIR, sh_RIR, sc_RIRI, sh_RIRI, sc_RRII, sh_RRII, sc_RRIII, sh_RRIII, sc_RIIRR, sh_RIIRR, sc_RIIIRR, sh_RIIIRR, sc_RIIR, sh_RIIR, sc_RRIIR, sh_RRIIR, sc_RRIIIR, sh_RRIIIR, sc_RRIIIIR, sh_RRIIIIR, sc_RRIR, sh_RRIR, hW, h1, and_imp, forall_eq, psc, sc_RIIIII, sh_RIIIII]
    intro w g' hc
    obtain ⟨rfl, c1, X1⟩ := pk c hc rfl
    simp only [ac_ent, ldI, ldR, stI, stR, inc, cI, cJ, cN, bop, oAdd, oSub, oMul, oAnd, oOr, oXor, oShl, oShr, oUshr, oRem, oDiv, oMx, oMn, oI2l, oLcmp, oDup, oDup2, oDupX1, oPop, bIc, bI0, bNul, getI, getR, putI, putZ, putR, aLen, aldI, aldZ, aldJ, aldR, astI, astZ, astJ, astR, nwO, nwA, gsT, oObj, oCpy, oCln, oCst, rtI, rtZ, rtR, rtV, thr, call, callH, ac_hsel, ac_as, ac_rs, ac_cs, ac_rcv, List.map_cons, List.map_nil, List.length_cons, List.length_nil, List.replicate, List.append_nil, List.cons_append, List.nil_append, List.getElem?_cons_zero, List.getElem?_cons_succ, List.set, Nat.zero_add, Nat.add_zero, Nat.le_refl, Nat.reduceAdd, Nat.reduceSub, Nat.reduceLeDiff, Int.reduceLT, Int.reduceLE, Int.reduceNeg, Int.reduceEq, true_and, and_true, true_or, or_true, not_true_eq_false, not_false_eq_true, false_implies, true_implies, implies_true, reduceIte, and_self, Int.reduceAdd, Int.reduceMul, Int.reduceSub, eq_self, Int.add_zero, Int.zero_add, String.reduceEq, Nat.zero_le, Option.some.injEq, Sum.inl.injEq, Sum.inr.injEq, reduceCtorEq, Int.reduceToNat, Option.toList_some, Option.toList_none, ac_cs, ac_c10, ac_c11, ac_c12, ac_c13, ac_c14, ac_c15, ac_c16, ac_c17, sc_E, sh_E, sc_I, sh_I, sc_II, sh_II, sc_III, sh_III, sc_R, sh_R, sc_RI, sh_RI, sc_RII, sh_RII, sc_RIII, sh_RIII, sc_RIIII, sh_RIIII, sc_RR, sh_RR, sc_RRI, sh_RRI, sc_RRR, sh_RRR, sc_RIR, sh_RIR, sc_RIRI, sh_RIRI, sc_RRII, sh_RRII, sc_RRIII, sh_RRIII, sc_RIIRR, sh_RIIRR, sc_RIIIRR, sh_RIIIRR, sc_RIIR, sh_RIIR, sc_RRIIR, sh_RRIIR, sc_RRIIIR, sh_RRIIIR, sc_RRIIIIR, sh_RRIIIIR, sc_RRIR, sh_RRIR, and_imp, forall_eq, psc, sc_RIIIII, sh_RIIIII]
    exact ⟨0, by omega, od, rfl, ho, c1, rfl, rfl, rfl, rfl⟩
  | 3, hI =>
    obtain ⟨od, hm, ho, c, rfl, rfl, rfl, rfl⟩ := hI
    have Xg := CX_t hX c
    obtain ⟨hW, h1⟩ := CX_W Xg
    have lf : ∀ {w : Option ac_V} {g' : ac_H} {how x y z u : Int}, lw v 36 < 35 → aC v n r = (how, x, y, z, u) → OKz o g g' w (dA how x y z u) (dN how x y z u) → ∃ b, w = some (.inl b) ∧ OKz o h g' (some (.inl b)) (aA v) (aN v) := fun k e d => by
      obtain ⟨b, rfl⟩ := dz_v Xg d
      exact ⟨b, rfl, fin c k e d⟩
    rcases ho with ⟨rfl, ho⟩ | ⟨rfl, ho⟩
    · simp only [spL_act, vcL_act, mL_act, spL_low, spX8_packs, spL_does, spX8_runs, spX8_wipe, ac_ent, ldI, ldR, stI, stR, inc, cI, cJ, cN, bop, oAdd, oSub, oMul, oAnd, oOr, oXor, oShl, oShr, oUshr, oRem, oDiv, oMx, oMn, oI2l, oLcmp, oDup, oDup2, oDupX1, oPop, bIc, bI0, bNul, getI, getR, putI, putZ, putR, aLen, aldI, aldZ, aldJ, aldR, astI, astZ, astJ, astR, nwO, nwA, gsT, oObj, oCpy, oCln, oCst, rtI, rtZ, rtR, rtV, thr, call, callH, ac_hsel, ac_as, ac_rs, ac_cs, ac_rcv, List.map_cons, List.map_nil, List.length_cons, List.length_nil, List.replicate, List.append_nil, List.cons_append, List.nil_append, List.getElem?_cons_zero, List.getElem?_cons_succ, List.set, Nat.zero_add, Nat.add_zero, Nat.le_refl, Nat.reduceAdd, Nat.reduceSub, Nat.reduceLeDiff, Int.reduceLT, Int.reduceLE, Int.reduceNeg, Int.reduceEq, true_and, and_true, true_or, or_true, not_true_eq_false, not_false_eq_true, false_implies, true_implies, implies_true, reduceIte, and_self, Int.reduceAdd, Int.reduceMul, Int.reduceSub, eq_self, Int.add_zero, Int.zero_add, String.reduceEq, Nat.zero_le, Option.some.injEq, Sum.inl.injEq, Sum.inr.injEq, reduceCtorEq, Int.reduceToNat, Option.toList_some, Option.toList_none, ac_cs, ac_c10, ac_c11, ac_c12, ac_c13, ac_c14, ac_c15, ac_c16, ac_c17, sc_E, sh_E, sc_I, sh_I, sc_II, sh_II, sc_III, sh_III, sc_R, sh_R, sc_RI, sh_RI, sc_RII, sh_RII, sc_RIII, sh_RIII, sc_RIIII, sh_RIIII, sc_RR, sh_RR, sc_RRI, sh_RRI, sc_RRR, sh_RRR, sc_RIR, sh_RIR, sc_RIRI, sh_RIRI, sc_RRII, sh_RRII, sc_RRIII, sh_RRIII, sc_RIIRR, sh_RIIRR, sc_RIIIRR, sh_RIIIRR, sc_RIIR, sh_RIIR, sc_RRIIR, sh_RRIIR, sc_RRIIIR, sh_RRIIIR, sc_RRIIIIR, sh_RRIIIIR, sc_RRIR, sh_RRIR, hW, h1, Xg, and_imp, forall_eq, psc, sc_RIIIII, sh_RIIIII]
      sorry
    · simp only [spL_act, vcL_act, mL_act, spL_low, spX8_packs, spL_does, spX8_runs, spX8_wipe, ac_ent, ldI, ldR, stI, stR, inc, cI, cJ, cN, bop, oAdd, oSub, oMul, oAnd, oOr, oXor, oShl, oShr, oUshr, oRem, oDiv, oMx, oMn, oI2l, oLcmp, oDup, oDup2, oDupX1, oPop, bIc, bI0, bNul, getI, getR, putI, putZ, putR, aLen, aldI, aldZ, aldJ, aldR, astI, astZ, astJ, astR, nwO, nwA, gsT, oObj, oCpy, oCln, oCst, rtI, rtZ, rtR, rtV, thr, call, callH, ac_hsel, ac_as, ac_rs, ac_cs, ac_rcv, List.map_cons, List.map_nil, List.length_cons, List.length_nil, List.replicate, List.append_nil, List.cons_append, List.nil_append, List.getElem?_cons_zero, List.getElem?_cons_succ, List.set, Nat.zero_add, Nat.add_zero, Nat.le_refl, Nat.reduceAdd, Nat.reduceSub, Nat.reduceLeDiff, Int.reduceLT, Int.reduceLE, Int.reduceNeg, Int.reduceEq, true_and, and_true, true_or, or_true, not_true_eq_false, not_false_eq_true, false_implies, true_implies, implies_true, reduceIte, and_self, Int.reduceAdd, Int.reduceMul, Int.reduceSub, eq_self, Int.add_zero, Int.zero_add, String.reduceEq, Nat.zero_le, Option.some.injEq, Sum.inl.injEq, Sum.inr.injEq, reduceCtorEq, Int.reduceToNat, Option.toList_some, Option.toList_none, ac_cs, ac_c10, ac_c11, ac_c12, ac_c13, ac_c14, ac_c15, ac_c16, ac_c17, sc_E, sh_E, sc_I, sh_I, sc_II, sh_II, sc_III, sh_III, sc_R, sh_R, sc_RI, sh_RI, sc_RII, sh_RII, sc_RIII, sh_RIII, sc_RIIII, sh_RIIII, sc_RR, sh_RR, sc_RRI, sh_RRI, sc_RRR, sh_RRR, sc_RIR, sh_RIR, sc_RIRI, sh_RIRI, sc_RRII, sh_RRII, sc_RRIII, sh_RRIII, sc_RIIRR, sh_RIIRR, sc_RIIIRR, sh_RIIIRR, sc_RIIR, sh_RIIR, sc_RRIIR, sh_RRIIR, sc_RRIIIR, sh_RRIIIR, sc_RRIIIIR, sh_RRIIIIR, sc_RRIR, sh_RRIR, hW, h1, Xg, and_imp, forall_eq, psc, sc_RIIIII, sh_RIIIII]
      sorry
  | j + 4, hI => exact hI.elim
