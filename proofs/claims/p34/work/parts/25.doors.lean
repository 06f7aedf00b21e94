/-! ===== the rounds by doors ===== -/
def bnB (f B : Int → Int) (r : Int) : Nat → Int → Int
  | 0 => B
  | d + 1 => if bhd f r d ≠ -1 ∧ B r + 1 < bnB f B r d (bhd f r d) then fu (bnB f B r d) (bhd f r d) (B r + 1) else bnB f B r d
theorem bnB_le {f B : Int → Int} {r : Int} : ∀ (d : Nat) (v : Int), bnB f B r d v ≤ B v
  | 0, v => Int.le_refl _
  | d + 1, v => by
    have h := bnB_le (f := f) (B := B) (r := r) d v
    rw [bnB]
    split
    · rename_i q
      simp only [fu]
      split
      · rename_i e; rw [e] at h ⊢; omega
      · exact h
    · exact h
theorem bnB_cl {f B : Int → Int} {r : Int} : ∀ (d : Nat) (i : Int), 0 ≤ i → i < d → bhd f r i ≠ -1 → bnB f B r d (bhd f r i) ≤ B r + 1
  | 0, i, a, b, _ => by omega
  | d + 1, i, a, b, c => by
    have hm : ∀ v, bnB f B r (d + 1) v ≤ bnB f B r d v := by
      intro v
      rw [bnB]
      split
      · rename_i q
        simp only [fu]
        split
        · rename_i e; rw [e]; omega
        · exact Int.le_refl _
      · exact Int.le_refl _
    by_cases e : i = d
    · subst e
      rw [bnB]
      split
      · simp [fu]
      · rename_i q
        have : ¬ (B r + 1 < bnB f B r d (bhd f r d)) := fun q2 => q ⟨c, q2⟩
        omega
    · have := bnB_cl (f := f) (B := B) (r := r) d i a (by omega) c
      have := hm (bhd f r i)
      omega
theorem bnB_ge {f B D : Int → Int} {r : Int} (hr : D r ≤ B r) (hD : ∀ d, 0 ≤ d → d < 4 → bhd f r d ≠ -1 → D (bhd f r d) ≤ D r + 1) : ∀ (d : Nat), d ≤ 4 → ∀ v, D v ≤ B v → D v ≤ bnB f B r d v
  | 0, _, v, hv => hv
  | d + 1, h4, v, hv => by
    have h := bnB_ge hr hD d (by omega) v hv
    rw [bnB]
    split
    · rename_i q
      simp only [fu]
      split
      · rename_i e
        have := hD d (by omega) (by omega) q.1
        rw [e]; omega
      · exact h
    · exact h
def spX3_bringNearer : ac_Sp := sc_RII (fun a r o h => FLk h a ∧ 0 ≤ r ∧ r < 16 ∧ o = h 10 (h 406 a 0) r + 1) (fun a r o h v h' => ∃ z, v = some (.inl z) ∧ (z = 0 ∨ z = 1) ∧ (z = 0 → bnB (h 10 (h 402 a 0)) (h 10 (h 406 a 0)) r 4 = h 10 (h 406 a 0)) ∧ h' = ast h (h 406 a 0) (bnB (h 10 (h 402 a 0)) (h 10 (h 406 a 0)) r 4)) (fun _ _ _ _ _ _ => False)
def ivX3_bringNearer (a r o : Int) (h : ac_H) : Nat → Nat → ac_S := fun j m => match j with
  | 0 => fun L S g k n => m = 10 ∧ ent0 [some (.inr (.inl a)), some (.inl r), some (.inl o), none, none, none] h L S g k n
  | 1 => fun L S g k n => ∃ (d : Nat) (z : Int) (o5 : Option ac_V), d ≤ 4 ∧ m = 4 - d ∧ (z = 0 ∨ z = 1) ∧ (z = 0 → bnB (h 10 (h 402 a 0)) (h 10 (h 406 a 0)) r d = h 10 (h 406 a 0)) ∧ L = [some (.inr (.inl a)), some (.inl r), some (.inl o), some (.inl z), some (.inl d), o5] ∧ S = [] ∧ g = ast h (h 406 a 0) (bnB (h 10 (h 402 a 0)) (h 10 (h 406 a 0)) r d) ∧ k = 0 ∧ n = 0
  | _ => fun _ _ _ _ _ => False
set_option maxRecDepth 100000 in
set_option maxHeartbeats 4000000 in
theorem mtX3_bringNearer {G : ac_G} {l : Launch} : ac_Met G l yX3_bringNearer mX3_bringNearer 2 45 0 0 spX3_bringNearer := by
  refine ac_meth (pcs := pcX3_bringNearer) (B := fun P X J j => vcX3_bringNearer spX3_behindDoor spX8_isRoom P X J j) (by decide) rfl rfl rfl (fun P X J hJ j => sdX3_bringNearer mtX3_behindDoor mtX8_isRoom P X J hJ j) (hp_RII (by decide)) fun As h hp => ?_
  obtain ⟨a, r, o, rfl, hp⟩ := sh_RII_inv hp
  obtain ⟨hf, r0, r1, ho⟩ := hp
  obtain ⟨f1, f2, f3, f4, f5, f6, f7, f8, f9, f10, f11, f12, f13, f14, f15, f16, f17⟩ := id hf
  refine ⟨ivX3_bringNearer a r o h, 10, ⟨rfl, rfl, rfl, rfl, rfl, rfl⟩, fun j m L S g k n hI => ?_⟩
  match j, hI with
  | 0, hI =>
    obtain ⟨hm, rfl, rfl, rfl, rfl, rfl⟩ := hI
    simp only [spX3_bringNearer, vcX3_bringNearer, mX3_bringNearer, spX3_behindDoor, spX8_isRoom, ac_ent, ldI, ldR, stI, stR, inc, cI, cJ, cN, bop, oAdd, oSub, oMul, oAnd, oOr, oXor, oShl, oShr, oUshr, oRem, oDiv, oMx, oMn, oI2l, oLcmp, oDup, oDup2, oDupX1, oPop, bIc, bI0, bNul, getI, getR, putI, putZ, putR, aLen, aldI, aldZ, aldJ, aldR, astI, astZ, astJ, astR, nwO, nwA, gsT, oObj, oCpy, oCln, oCst, rtI, rtZ, rtR, rtV, thr, call, callH, ac_hsel, ac_as, ac_rs, ac_cs, ac_rcv, List.map_cons, List.map_nil, List.length_cons, List.length_nil, List.replicate, List.append_nil, List.cons_append, List.nil_append, List.getElem?_cons_zero, List.getElem?_cons_succ, List.set, Nat.zero_add, Nat.add_zero, Nat.le_refl, Nat.reduceAdd, Nat.reduceSub, Nat.reduceLeDiff, Int.reduceLT, Int.reduceLE, Int.reduceNeg, Int.reduceEq, true_and, and_true, true_or, or_true, not_true_eq_false, not_false_eq_true, false_implies, true_implies, implies_true, reduceIte, and_self, Int.reduceAdd, Int.reduceMul, Int.reduceSub, eq_self, Int.add_zero, Int.zero_add, String.reduceEq, Nat.zero_le, Option.some.injEq, Sum.inl.injEq, Sum.inr.injEq, reduceCtorEq, Int.reduceToNat, Option.toList_some, Option.toList_none, ac_cs, ac_c10, ac_c11, ac_c12, ac_c13, ac_c14, ac_c15, ac_c16, ac_c17, sc_E, sh_E, sc_I, sh_I, sc_II, sh_II, sc_III, sh_III, sc_R, sh_R, sc_RI, sh_RI, sc_RII, sh_RII, sc_RIII, sh_RIII, sc_RIIII, sh_RIIII, sc_RR, sh_RR, sc_RRI, sh_RRI, sc_RRR, sh_RRR, sc_RIR, sh_RIR, sc_RIRI, sh_RIRI, sc_RRII, sh_RRII, sc_RRIII, sh_RRIII, sc_RIIRR, sh_RIIRR, sc_RIIIRR, sh_RIIIRR, sc_RIIR, sh_RIIR, sc_RRIIR, sh_RRIIR, sc_RRIIIR, sh_RRIIIR, sc_RRIIIIR, sh_RRIIIIR, sc_RRIR, sh_RRIR]
    exact ⟨4, by omega, 0, 0, none, by omega, by omega, Or.inl rfl, fun _ => rfl, rfl, rfl, by rw [bnB, ast_self], rfl, rfl⟩
  | 1, hI =>
    obtain ⟨d, z, o5, d4, hm, hz, hz0, rfl, rfl, rfl, rfl, rfl⟩ := hI
    simp only [spX3_bringNearer, vcX3_bringNearer, mX3_bringNearer, spX3_behindDoor, spX8_isRoom, ac_ent, ldI, ldR, stI, stR, inc, cI, cJ, cN, bop, oAdd, oSub, oMul, oAnd, oOr, oXor, oShl, oShr, oUshr, oRem, oDiv, oMx, oMn, oI2l, oLcmp, oDup, oDup2, oDupX1, oPop, bIc, bI0, bNul, getI, getR, putI, putZ, putR, aLen, aldI, aldZ, aldJ, aldR, astI, astZ, astJ, astR, nwO, nwA, gsT, oObj, oCpy, oCln, oCst, rtI, rtZ, rtR, rtV, thr, call, callH, ac_hsel, ac_as, ac_rs, ac_cs, ac_rcv, List.map_cons, List.map_nil, List.length_cons, List.length_nil, List.replicate, List.append_nil, List.cons_append, List.nil_append, List.getElem?_cons_zero, List.getElem?_cons_succ, List.set, Nat.zero_add, Nat.add_zero, Nat.le_refl, Nat.reduceAdd, Nat.reduceSub, Nat.reduceLeDiff, Int.reduceLT, Int.reduceLE, Int.reduceNeg, Int.reduceEq, true_and, and_true, true_or, or_true, not_true_eq_false, not_false_eq_true, false_implies, true_implies, implies_true, reduceIte, and_self, Int.reduceAdd, Int.reduceMul, Int.reduceSub, eq_self, Int.add_zero, Int.zero_add, String.reduceEq, Nat.zero_le, Option.some.injEq, Sum.inl.injEq, Sum.inr.injEq, reduceCtorEq, Int.reduceToNat, Option.toList_some, Option.toList_none, ac_cs, ac_c10, ac_c11, ac_c12, ac_c13, ac_c14, ac_c15, ac_c16, ac_c17, sc_E, sh_E, sc_I, sh_I, sc_II, sh_II, sc_III, sh_III, sc_R, sh_R, sc_RI, sh_RI, sc_RII, sh_RII, sc_RIII, sh_RIII, sc_RIIII, sh_RIIII, sc_RR, sh_RR, sc_RRI, sh_RRI, sc_RRR, sh_RRR, sc_RIR, sh_RIR, sc_RIRI, sh_RIRI, sc_RRII, sh_RRII, sc_RRIII, sh_RRIII, sc_RIIRR, sh_RIIRR, sc_RIIIRR, sh_RIIIRR, sc_RIIR, sh_RIIR, sc_RRIIR, sh_RRIIR, sc_RRIIIR, sh_RRIIIR, sc_RRIIIIR, sh_RRIIIIR, sc_RRIR, sh_RRIR, up_k, ast_k, up_kf, ast_kf, ne_eq, Nat.reduceEqDiff, not_false_eq_true, f1, f4, f5, r0, r1, ast_af f14]
    refine ⟨fun q => ?_, fun q => ?_⟩
    · have hd : d = 4 := by omega
      subst hd
      exact ⟨hz, z, rfl, hz, hz0, rfl⟩
    · rintro v h' ⟨rfl, rfl⟩
      simp only [ac_ent, ldI, ldR, stI, stR, inc, cI, cJ, cN, bop, oAdd, oSub, oMul, oAnd, oOr, oXor, oShl, oShr, oUshr, oRem, oDiv, oMx, oMn, oI2l, oLcmp, oDup, oDup2, oDupX1, oPop, bIc, bI0, bNul, getI, getR, putI, putZ, putR, aLen, aldI, aldZ, aldJ, aldR, astI, astZ, astJ, astR, nwO, nwA, gsT, oObj, oCpy, oCln, oCst, rtI, rtZ, rtR, rtV, thr, call, callH, ac_hsel, ac_as, ac_rs, ac_cs, ac_rcv, List.map_cons, List.map_nil, List.length_cons, List.length_nil, List.replicate, List.append_nil, List.cons_append, List.nil_append, List.getElem?_cons_zero, List.getElem?_cons_succ, List.set, Nat.zero_add, Nat.add_zero, Nat.le_refl, Nat.reduceAdd, Nat.reduceSub, Nat.reduceLeDiff, Int.reduceLT, Int.reduceLE, Int.reduceNeg, Int.reduceEq, true_and, and_true, true_or, or_true, not_true_eq_false, not_false_eq_true, false_implies, true_implies, implies_true, reduceIte, and_self, Int.reduceAdd, Int.reduceMul, Int.reduceSub, eq_self, Int.add_zero, Int.zero_add, String.reduceEq, Nat.zero_le, Option.some.injEq, Sum.inl.injEq, Sum.inr.injEq, reduceCtorEq, Int.reduceToNat, Option.toList_some, Option.toList_none, ac_cs, ac_c10, ac_c11, ac_c12, ac_c13, ac_c14, ac_c15, ac_c16, ac_c17, sc_E, sh_E, sc_I, sh_I, sc_II, sh_II, sc_III, sh_III, sc_R, sh_R, sc_RI, sh_RI, sc_RII, sh_RII, sc_RIII, sh_RIII, sc_RIIII, sh_RIIII, sc_RR, sh_RR, sc_RRI, sh_RRI, sc_RRR, sh_RRR, sc_RIR, sh_RIR, sc_RIRI, sh_RIRI, sc_RRII, sh_RRII, sc_RRIII, sh_RRIII, sc_RIIRR, sh_RIIRR, sc_RIIIRR, sh_RIIIRR, sc_RIIR, sh_RIIR, sc_RRIIR, sh_RRIIR, sc_RRIIIR, sh_RRIIIR, sc_RRIIIIR, sh_RRIIIIR, sc_RRIR, sh_RRIR]
      rintro v g ⟨rfl, rfl⟩
      simp only [up_k, ast_k, up_kf, ast_kf, ne_eq, Nat.reduceEqDiff, not_false_eq_true, f1, f10, f11, ast_10', ac_ent, ldI, ldR, stI, stR, inc, cI, cJ, cN, bop, oAdd, oSub, oMul, oAnd, oOr, oXor, oShl, oShr, oUshr, oRem, oDiv, oMx, oMn, oI2l, oLcmp, oDup, oDup2, oDupX1, oPop, bIc, bI0, bNul, getI, getR, putI, putZ, putR, aLen, aldI, aldZ, aldJ, aldR, astI, astZ, astJ, astR, nwO, nwA, gsT, oObj, oCpy, oCln, oCst, rtI, rtZ, rtR, rtV, thr, call, callH, ac_hsel, ac_as, ac_rs, ac_cs, ac_rcv, List.map_cons, List.map_nil, List.length_cons, List.length_nil, List.replicate, List.append_nil, List.cons_append, List.nil_append, List.getElem?_cons_zero, List.getElem?_cons_succ, List.set, Nat.zero_add, Nat.add_zero, Nat.le_refl, Nat.reduceAdd, Nat.reduceSub, Nat.reduceLeDiff, Int.reduceLT, Int.reduceLE, Int.reduceNeg, Int.reduceEq, true_and, and_true, true_or, or_true, not_true_eq_false, not_false_eq_true, false_implies, true_implies, implies_true, reduceIte, and_self, Int.reduceAdd, Int.reduceMul, Int.reduceSub, eq_self, Int.add_zero, Int.zero_add, String.reduceEq, Nat.zero_le, Option.some.injEq, Sum.inl.injEq, Sum.inr.injEq, reduceCtorEq, Int.reduceToNat, Option.toList_some, Option.toList_none, ac_cs, ac_c10, ac_c11, ac_c12, ac_c13, ac_c14, ac_c15, ac_c16, ac_c17, sc_E, sh_E, sc_I, sh_I, sc_II, sh_II, sc_III, sh_III, sc_R, sh_R, sc_RI, sh_RI, sc_RII, sh_RII, sc_RIII, sh_RIII, sc_RIIII, sh_RIIII, sc_RR, sh_RR, sc_RRI, sh_RRI, sc_RRR, sh_RRR, sc_RIR, sh_RIR, sc_RIRI, sh_RIRI, sc_RRII, sh_RRII, sc_RRIII, sh_RRIII, sc_RIIRR, sh_RIIRR, sc_RIIIRR, sh_RIIIRR, sc_RIIR, sh_RIIR, sc_RRIIR, sh_RRIIR, sc_RRIIIR, sh_RRIIIR, sc_RRIIIIR, sh_RRIIIIR, sc_RRIR, sh_RRIR]
      simp (disch := omega) only [wr_of]
      have skp : ¬ (bhd (h 10 (h 402 a 0)) r d ≠ -1 ∧ h 10 (h 406 a 0) r + 1 < bnB (h 10 (h 402 a 0)) (h 10 (h 406 a 0)) r d (bhd (h 10 (h 402 a 0)) r d)) → ∀ x, ∃ m', m' < m ∧ ivX3_bringNearer a r o h 1 m' [some (.inr (.inl a)), some (.inl r), some (.inl o), some (.inl z), some (.inl ((d : Int) + 1)), x] [] (ast h (h 406 a 0) (bnB (h 10 (h 402 a 0)) (h 10 (h 406 a 0)) r d)) 0 0 := fun q2 x =>
        ⟨4 - (d + 1), by omega, d + 1, z, x, by omega, by omega, hz, fun z0 => by rw [bnB, if_neg q2]; exact hz0 z0, rfl, rfl, by rw [bnB, if_neg q2], rfl, rfl⟩
      rcases bhd_r (f := h 10 (h 402 a 0)) (d := d) r0 r1 with e | hr
      · exact ⟨fun _ => skp (fun q2 => q2.1 e) _, fun q2 => absurd (show rm1 (bhd (h 10 (h 402 a 0)) r d) = 0 by rw [e]; decide) q2⟩
      · have e : bhd (h 10 (h 402 a 0)) r d ≠ -1 := by omega
        refine ⟨fun q2 => absurd (q2.symm.trans (rm_y hr.1 hr.2)) (by decide), fun _ => ⟨hr, fun e2 => skp (fun q2 => by omega) _, fun e2 => ⟨hr, ?_⟩⟩⟩
        exact ⟨4 - (d + 1), by omega, d + 1, 1, _, by omega, by omega, Or.inr rfl, fun z0 => absurd z0 (by omega), rfl, rfl, by rw [up_ast, bnB, if_pos ⟨e, by omega⟩, ho], rfl, rfl⟩
  | j + 2, hI => exact hI.elim
/-- all rooms are reached -/
def WDc (f : Int → Int) (e : Int) (D : Int → Int) : Prop := WD f e D ∧ ∀ r, 0 ≤ r → r < 16 → D r ≠ -1
/-- after k rounds -/
def BFI (e : Int) (D B : Int → Int) (k : Int) : Prop := B e = 0 ∧ (∀ v, 0 ≤ v → v < 16 → D v ≤ B v ∧ B v ≤ 16) ∧ ∀ v, 0 ≤ v → v < 16 → D v ≤ k → B v = D v
def BFc (f B : Int → Int) : Prop := ∀ r d, 0 ≤ r → r < 16 → 0 ≤ d → d < 4 → bhd f r d ≠ -1 → B (bhd f r d) ≤ B r + 1
/-- within a round that began with B0, before room p -/
def BFR (f : Int → Int) (e : Int) (D B0 B : Int → Int) (p : Int) : Prop := B e = 0 ∧ (∀ v, 0 ≤ v → v < 16 → D v ≤ B v ∧ B v ≤ B0 v) ∧ ∀ r d, 0 ≤ r → r < p → 0 ≤ d → d < 4 → bhd f r d ≠ -1 → B (bhd f r d) ≤ B0 r + 1
theorem BFc_fin {f D B : Int → Int} {e k : Int} (h : WDc f e D) (hB : BFI e D B k) (hc : BFc f B) : ∀ v, 0 ≤ v → v < 16 → B v = D v := by
  have key : ∀ (n : Nat) (v : Int), 0 ≤ v → v < 16 → D v = n → B v ≤ n := by
    intro n
    induction n with
    | zero =>
      intro v v0 v1 hv
      by_cases q : v = e
      · rw [q, hB.1]; omega
      · obtain ⟨u, d, u0, u1, d0, d1, hu, hb, hr⟩ := h.1.2.2.2 v v0 v1 (h.2 v v0 v1) q
        have := (h.1.2.1 u u0 u1).1
        omega
    | succ n ih =>
      intro v v0 v1 hv
      by_cases q : v = e
      · rw [q, hB.1]; omega
      · obtain ⟨u, d, u0, u1, d0, d1, hu, hb, hr⟩ := h.1.2.2.2 v v0 v1 (h.2 v v0 v1) q
        have h1 := ih u u0 u1 (by omega)
        have h2 := hc u d u0 u1 d0 d1 (by rw [hb]; omega)
        rw [hb] at h2
        omega
  intro v v0 v1
  have h1 := (h.1.2.1 v v0 v1).1
  have h2 := h.2 v v0 v1
  have h3 := key (D v).toNat v v0 v1 (by omega)
  have h4 := (hB.2.1 v v0 v1).1
  omega
theorem BFI_16 {f D B : Int → Int} {e k : Int} (h : WDc f e D) (hB : BFI e D B k) (hk : 15 ≤ k) : ∀ v, 0 ≤ v → v < 16 → B v = D v := fun v v0 v1 => hB.2.2 v v0 v1 (by have := (h.1.2.1 v v0 v1).2; omega)
theorem BFR_0 {f D B : Int → Int} {e k : Int} (hB : BFI e D B k) : BFR f e D B B 0 := ⟨hB.1, fun v a b => ⟨(hB.2.1 v a b).1, Int.le_refl _⟩, fun r d a b => by omega⟩
theorem BFR_s {f D B0 B : Int → Int} {e p : Int} (h : WDc f e D) (he : 0 ≤ e ∧ e < 16) (hB : BFR f e D B0 B p) (p0 : 0 ≤ p) (p1 : p < 16) : BFR f e D B0 (bnB f B p 4) (p + 1) := by
  obtain ⟨h1, h2, h3⟩ := hB
  have ge : ∀ v, 0 ≤ v → v < 16 → D v ≤ bnB f B p 4 v := fun v a b => bnB_ge (h2 p p0 p1).1 (fun d d0 d1 hb => (h.1.2.2.1 p d p0 p1 d0 d1 (h.2 p p0 p1) hb).2) 4 (by omega) v (h2 v a b).1
  refine ⟨?_, fun v a b => ⟨ge v a b, Int.le_trans (bnB_le 4 v) (h2 v a b).2⟩, fun r d a b c c2 hb => ?_⟩
  · have a1 := bnB_le (f := f) (B := B) (r := p) 4 e
    have a2 := ge e he.1 he.2
    have a3 := h.1.1
    omega
  · by_cases q : r = p
    · subst q
      have a1 := bnB_cl (f := f) (B := B) (r := r) 4 d c (by omega) hb
      have a2 := (h2 r p0 p1).2
      omega
    · exact Int.le_trans (bnB_le 4 _) (h3 r d a (by omega) c c2 hb)
theorem BFR_e {f D B0 B : Int → Int} {e k : Int} (h : WDc f e D) (hB : BFR f e D B0 B 16) (h0 : BFI e D B0 k) (hk : 0 ≤ k) : BFI e D B (k + 1) := by
  obtain ⟨h1, h2, h3⟩ := hB
  refine ⟨h1, fun v a b => ⟨(h2 v a b).1, Int.le_trans (h2 v a b).2 (h0.2.1 v a b).2⟩, fun v a b c => ?_⟩
  have a0 := (h2 v a b).1
  by_cases q : v = e
  · have a1 := h.1.1
    rw [q, h1, a1]
  · obtain ⟨u, d, u0, u1, d0, d1, hu, hb, hr⟩ := h.1.2.2.2 v a b (h.2 v a b) q
    have a1 := h0.2.2 u u0 u1 (by omega)
    have a2 := h3 u d u0 u1 d0 d1 (by rw [hb]; omega)
    rw [hb] at a2
    omega
def spX3_measureByDoors : ac_Sp := sc_R (fun a h => FLk h a ∧ ∃ D, WDc (h 10 (h 402 a 0)) (h 400 a 0) D) (fun a h v h' => v = none ∧ ∃ B, h' = ast h (h 406 a 0) B ∧ ∀ D, WDc (h 10 (h 402 a 0)) (h 400 a 0) D → ∀ r, 0 ≤ r → r < 16 → B r = D r) (fun _ _ _ _ => False)
def ivX3_measureByDoors (a : Int) (h : ac_H) (D : Int → Int) : Nat → Nat → ac_S := fun j m => match j with
  | 0 => fun L S g k n => m = 1000 ∧ ent0 [some (.inr (.inl a)), none, none, none] h L S g k n
  | 1 => fun L S g k n => ∃ (i : Int) (o2 o3 : Option ac_V), 0 ≤ i ∧ i ≤ 16 ∧ (m : Int) = 900 - i ∧ L = [some (.inr (.inl a)), some (.inl i), o2, o3] ∧ S = [] ∧ g = ast h (h 406 a 0) (ini (h 400 a 0) 0 16 i (h 10 (h 406 a 0))) ∧ k = 0 ∧ n = 0
  | 2 => fun L S g k n => ∃ (z i : Int) (B : Int → Int) (o3 : Option ac_V), 0 ≤ i ∧ i ≤ 16 ∧ (m : Int) = (16 - i) * 20 ∧ (z = 0 → BFc (h 10 (h 402 a 0)) B) ∧ BFI (h 400 a 0) D B i ∧ L = [some (.inr (.inl a)), some (.inl z), some (.inl i), o3] ∧ S = [] ∧ g = ast h (h 406 a 0) B ∧ k = 0 ∧ n = 0
  | 3 => fun L S g k n => ∃ (z i p : Int) (B0 B : Int → Int), 0 ≤ i ∧ i < 16 ∧ 0 ≤ p ∧ p ≤ 16 ∧ (m : Int) = (16 - i) * 20 - 1 - p ∧ (z = 0 → B = B0) ∧ BFI (h 400 a 0) D B0 i ∧ BFR (h 10 (h 402 a 0)) (h 400 a 0) D B0 B p ∧ L = [some (.inr (.inl a)), some (.inl z), some (.inl i), some (.inl p)] ∧ S = [] ∧ g = ast h (h 406 a 0) B ∧ k = 0 ∧ n = 0
  | _ => fun _ _ _ _ _ => False
set_option maxRecDepth 100000 in
set_option maxHeartbeats 4000000 in
theorem mtX3_measureByDoors {G : ac_G} {l : Launch} : ac_Met G l yX3_measureByDoors mX3_measureByDoors 3 70 0 0 spX3_measureByDoors := by
  refine ac_meth (pcs := pcX3_measureByDoors) (B := fun P X J j => vcX3_measureByDoors spX3_bringNearer P X J j) (by decide) rfl rfl rfl (fun P X J hJ j => sdX3_measureByDoors mtX3_bringNearer P X J hJ j) (hp_R (by decide)) fun As h hp => ?_
  obtain ⟨a, rfl, hp⟩ := sh_R_inv hp
  obtain ⟨hf, D, hD⟩ := hp
  obtain ⟨f1, f2, f3, f4, f5, f6, f7, f8, f9, f10, f11, f12, f13, f14, f15, f16, f17⟩ := id hf
  refine ⟨ivX3_measureByDoors a h D, 1000, ⟨rfl, rfl, rfl, rfl, rfl, rfl⟩, fun j m L S g k n hI => ?_⟩
  match j, hI with
  | 0, hI =>
    obtain ⟨hm, rfl, rfl, rfl, rfl, rfl⟩ := hI
    simp only [spX3_measureByDoors, vcX3_measureByDoors, mX3_measureByDoors, spX3_bringNearer, ac_ent, ldI, ldR, stI, stR, inc, cI, cJ, cN, bop, oAdd, oSub, oMul, oAnd, oOr, oXor, oShl, oShr, oUshr, oRem, oDiv, oMx, oMn, oI2l, oLcmp, oDup, oDup2, oDupX1, oPop, bIc, bI0, bNul, getI, getR, putI, putZ, putR, aLen, aldI, aldZ, aldJ, aldR, astI, astZ, astJ, astR, nwO, nwA, gsT, oObj, oCpy, oCln, oCst, rtI, rtZ, rtR, rtV, thr, call, callH, ac_hsel, ac_as, ac_rs, ac_cs, ac_rcv, List.map_cons, List.map_nil, List.length_cons, List.length_nil, List.replicate, List.append_nil, List.cons_append, List.nil_append, List.getElem?_cons_zero, List.getElem?_cons_succ, List.set, Nat.zero_add, Nat.add_zero, Nat.le_refl, Nat.reduceAdd, Nat.reduceSub, Nat.reduceLeDiff, Int.reduceLT, Int.reduceLE, Int.reduceNeg, Int.reduceEq, true_and, and_true, true_or, or_true, not_true_eq_false, not_false_eq_true, false_implies, true_implies, implies_true, reduceIte, and_self, Int.reduceAdd, Int.reduceMul, Int.reduceSub, eq_self, Int.add_zero, Int.zero_add, String.reduceEq, Nat.zero_le, Option.some.injEq, Sum.inl.injEq, Sum.inr.injEq, reduceCtorEq, Int.reduceToNat, Option.toList_some, Option.toList_none, ac_cs, ac_c10, ac_c11, ac_c12, ac_c13, ac_c14, ac_c15, ac_c16, ac_c17, sc_E, sh_E, sc_I, sh_I, sc_II, sh_II, sc_III, sh_III, sc_R, sh_R, sc_RI, sh_RI, sc_RII, sh_RII, sc_RIII, sh_RIII, sc_RIIII, sh_RIIII, sc_RR, sh_RR, sc_RRI, sh_RRI, sc_RRR, sh_RRR, sc_RIR, sh_RIR, sc_RIRI, sh_RIRI, sc_RRII, sh_RRII, sc_RRIII, sh_RRIII, sc_RIIRR, sh_RIIRR, sc_RIIIRR, sh_RIIIRR, sc_RIIR, sh_RIIR, sc_RRIIR, sh_RRIIR, sc_RRIIIR, sh_RRIIIR, sc_RRIIIIR, sh_RRIIIIR, sc_RRIR, sh_RRIR]
    exact ⟨900, by omega, 0, none, none, by omega, by omega, by omega, rfl, rfl, by rw [ini_0, ast_self], rfl, rfl⟩
  | 1, hI =>
    obtain ⟨i, o2, o3, i0, i1, hm, rfl, rfl, rfl, rfl, rfl⟩ := hI
    simp only [spX3_measureByDoors, vcX3_measureByDoors, mX3_measureByDoors, spX3_bringNearer, ac_ent, ldI, ldR, stI, stR, inc, cI, cJ, cN, bop, oAdd, oSub, oMul, oAnd, oOr, oXor, oShl, oShr, oUshr, oRem, oDiv, oMx, oMn, oI2l, oLcmp, oDup, oDup2, oDupX1, oPop, bIc, bI0, bNul, getI, getR, putI, putZ, putR, aLen, aldI, aldZ, aldJ, aldR, astI, astZ, astJ, astR, nwO, nwA, gsT, oObj, oCpy, oCln, oCst, rtI, rtZ, rtR, rtV, thr, call, callH, ac_hsel, ac_as, ac_rs, ac_cs, ac_rcv, List.map_cons, List.map_nil, List.length_cons, List.length_nil, List.replicate, List.append_nil, List.cons_append, List.nil_append, List.getElem?_cons_zero, List.getElem?_cons_succ, List.set, Nat.zero_add, Nat.add_zero, Nat.le_refl, Nat.reduceAdd, Nat.reduceSub, Nat.reduceLeDiff, Int.reduceLT, Int.reduceLE, Int.reduceNeg, Int.reduceEq, true_and, and_true, true_or, or_true, not_true_eq_false, not_false_eq_true, false_implies, true_implies, implies_true, reduceIte, and_self, Int.reduceAdd, Int.reduceMul, Int.reduceSub, eq_self, Int.add_zero, Int.zero_add, String.reduceEq, Nat.zero_le, Option.some.injEq, Sum.inl.injEq, Sum.inr.injEq, reduceCtorEq, Int.reduceToNat, Option.toList_some, Option.toList_none, ac_cs, ac_c10, ac_c11, ac_c12, ac_c13, ac_c14, ac_c15, ac_c16, ac_c17, sc_E, sh_E, sc_I, sh_I, sc_II, sh_II, sc_III, sh_III, sc_R, sh_R, sc_RI, sh_RI, sc_RII, sh_RII, sc_RIII, sh_RIII, sc_RIIII, sh_RIIII, sc_RR, sh_RR, sc_RRI, sh_RRI, sc_RRR, sh_RRR, sc_RIR, sh_RIR, sc_RIRI, sh_RIRI, sc_RRII, sh_RRII, sc_RRIII, sh_RRIII, sc_RIIRR, sh_RIIRR, sc_RIIIRR, sh_RIIIRR, sc_RIIR, sh_RIIR, sc_RRIIR, sh_RRIIR, sc_RRIIIR, sh_RRIIIR, sc_RRIIIIR, sh_RRIIIIR, sc_RRIR, sh_RRIR, up_k, ast_k, up_kf, ast_kf, ne_eq, Nat.reduceEqDiff, not_false_eq_true, f1, f10, f11]
    refine ⟨fun q => ?_, fun q => ⟨fun e => ⟨⟨i0, by omega⟩, ?_⟩, fun e => ⟨⟨i0, by omega⟩, ?_⟩⟩⟩
    · have h16 : i = 16 := by omega
      subst h16
      refine ⟨320, by omega, 1, 0, _, o3, by omega, by omega, by omega, fun q2 => absurd q2 (by decide), ?_, rfl, rfl, rfl, rfl, rfl⟩
      have e0 := hD.1.1
      have b16 : ∀ v, 0 ≤ v → v < 16 → v ≠ h 400 a 0 → ini (h 400 a 0) 0 16 16 (h 10 (h 406 a 0)) v = 16 := fun v a b c => by
        rw [ini_16 a b, if_neg c]
      have b0 : ini (h 400 a 0) 0 16 16 (h 10 (h 406 a 0)) (h 400 a 0) = 0 := by rw [ini_16 f2 f3, if_pos rfl]
      refine ⟨b0, fun v v0 v1 => ?_, fun v v0 v1 hv => ?_⟩
      · by_cases q : v = h 400 a 0
        · rw [q, b0, e0]; omega
        · rw [b16 v v0 v1 q]
          have := (hD.1.2.1 v v0 v1).2
          omega
      · by_cases q : v = h 400 a 0
        · rw [q, b0, e0]
        · obtain ⟨u, d, u0, u1, d0, d1, hu, hb, hr⟩ := hD.1.2.2.2 v v0 v1 (hD.2 v v0 v1) q
          have := (hD.1.2.1 u u0 u1).1
          omega
    · simp (disch := omega) only [wr_of]
      exact ⟨(900 - (i + 1)).toNat, by omega, i + 1, o2, o3, by omega, by omega, by omega, rfl, rfl, by rw [up_ast, ini_s i0 (by rw [if_pos e])], rfl, rfl⟩
    · simp (disch := omega) only [wr_of]
      exact ⟨(900 - (i + 1)).toNat, by omega, i + 1, o2, o3, by omega, by omega, by omega, rfl, rfl, by rw [up_ast, ini_s i0 (by rw [if_neg e])], rfl, rfl⟩
  | 2, hI =>
    obtain ⟨z, i, B, o3, i0, i1, hm, hz, hB, rfl, rfl, rfl, rfl, rfl⟩ := hI
    simp only [spX3_measureByDoors, vcX3_measureByDoors, mX3_measureByDoors, spX3_bringNearer, ac_ent, ldI, ldR, stI, stR, inc, cI, cJ, cN, bop, oAdd, oSub, oMul, oAnd, oOr, oXor, oShl, oShr, oUshr, oRem, oDiv, oMx, oMn, oI2l, oLcmp, oDup, oDup2, oDupX1, oPop, bIc, bI0, bNul, getI, getR, putI, putZ, putR, aLen, aldI, aldZ, aldJ, aldR, astI, astZ, astJ, astR, nwO, nwA, gsT, oObj, oCpy, oCln, oCst, rtI, rtZ, rtR, rtV, thr, call, callH, ac_hsel, ac_as, ac_rs, ac_cs, ac_rcv, List.map_cons, List.map_nil, List.length_cons, List.length_nil, List.replicate, List.append_nil, List.cons_append, List.nil_append, List.getElem?_cons_zero, List.getElem?_cons_succ, List.set, Nat.zero_add, Nat.add_zero, Nat.le_refl, Nat.reduceAdd, Nat.reduceSub, Nat.reduceLeDiff, Int.reduceLT, Int.reduceLE, Int.reduceNeg, Int.reduceEq, true_and, and_true, true_or, or_true, not_true_eq_false, not_false_eq_true, false_implies, true_implies, implies_true, reduceIte, and_self, Int.reduceAdd, Int.reduceMul, Int.reduceSub, eq_self, Int.add_zero, Int.zero_add, String.reduceEq, Nat.zero_le, Option.some.injEq, Sum.inl.injEq, Sum.inr.injEq, reduceCtorEq, Int.reduceToNat, Option.toList_some, Option.toList_none, ac_cs, ac_c10, ac_c11, ac_c12, ac_c13, ac_c14, ac_c15, ac_c16, ac_c17, sc_E, sh_E, sc_I, sh_I, sc_II, sh_II, sc_III, sh_III, sc_R, sh_R, sc_RI, sh_RI, sc_RII, sh_RII, sc_RIII, sh_RIII, sc_RIIII, sh_RIIII, sc_RR, sh_RR, sc_RRI, sh_RRI, sc_RRR, sh_RRR, sc_RIR, sh_RIR, sc_RIRI, sh_RIRI, sc_RRII, sh_RRII, sc_RRIII, sh_RRIII, sc_RIIRR, sh_RIIRR, sc_RIIIRR, sh_RIIIRR, sc_RIIR, sh_RIIR, sc_RRIIR, sh_RRIIR, sc_RRIIIR, sh_RRIIIR, sc_RRIIIIR, sh_RRIIIIR, sc_RRIR, sh_RRIR, up_k, ast_k, up_kf, ast_kf, ne_eq, Nat.reduceEqDiff, not_false_eq_true]
    have fin : (∀ r, 0 ≤ r → r < 16 → B r = D r) → ∃ B_1, ast h (h 406 a 0) B = ast h (h 406 a 0) B_1 ∧ ∀ D, WDc (h 10 (h 402 a 0)) (h 400 a 0) D → ∀ r, 0 ≤ r → r < 16 → B_1 r = D r := fun q => ⟨B, rfl, fun D' hD' r r0 r1 => by rw [q r r0 r1]; exact WD_eq hD.1 hD'.1 r0 r1⟩
    refine ⟨fun q => fin (BFc_fin hD hB (hz q)), fun q => ⟨fun q2 => fin (BFI_16 hD hB (by omega)), fun q2 => ?_⟩⟩
    exact ⟨((16 - i) * 20 - 1).toNat, by omega, 0, i, 0, B, B, by omega, by omega, by omega, by omega, by omega, fun _ => rfl, hB, BFR_0 hB, rfl, rfl, rfl, rfl, rfl⟩
  | 3, hI =>
    obtain ⟨z, i, p, B0, B, i0, i1, p0, p1, hm, hz, hB0, hB, rfl, rfl, rfl, rfl, rfl⟩ := hI
    simp only [spX3_measureByDoors, vcX3_measureByDoors, mX3_measureByDoors, spX3_bringNearer, ac_ent, ldI, ldR, stI, stR, inc, cI, cJ, cN, bop, oAdd, oSub, oMul, oAnd, oOr, oXor, oShl, oShr, oUshr, oRem, oDiv, oMx, oMn, oI2l, oLcmp, oDup, oDup2, oDupX1, oPop, bIc, bI0, bNul, getI, getR, putI, putZ, putR, aLen, aldI, aldZ, aldJ, aldR, astI, astZ, astJ, astR, nwO, nwA, gsT, oObj, oCpy, oCln, oCst, rtI, rtZ, rtR, rtV, thr, call, callH, ac_hsel, ac_as, ac_rs, ac_cs, ac_rcv, List.map_cons, List.map_nil, List.length_cons, List.length_nil, List.replicate, List.append_nil, List.cons_append, List.nil_append, List.getElem?_cons_zero, List.getElem?_cons_succ, List.set, Nat.zero_add, Nat.add_zero, Nat.le_refl, Nat.reduceAdd, Nat.reduceSub, Nat.reduceLeDiff, Int.reduceLT, Int.reduceLE, Int.reduceNeg, Int.reduceEq, true_and, and_true, true_or, or_true, not_true_eq_false, not_false_eq_true, false_implies, true_implies, implies_true, reduceIte, and_self, Int.reduceAdd, Int.reduceMul, Int.reduceSub, eq_self, Int.add_zero, Int.zero_add, String.reduceEq, Nat.zero_le, Option.some.injEq, Sum.inl.injEq, Sum.inr.injEq, reduceCtorEq, Int.reduceToNat, Option.toList_some, Option.toList_none, ac_cs, ac_c10, ac_c11, ac_c12, ac_c13, ac_c14, ac_c15, ac_c16, ac_c17, sc_E, sh_E, sc_I, sh_I, sc_II, sh_II, sc_III, sh_III, sc_R, sh_R, sc_RI, sh_RI, sc_RII, sh_RII, sc_RIII, sh_RIII, sc_RIIII, sh_RIIII, sc_RR, sh_RR, sc_RRI, sh_RRI, sc_RRR, sh_RRR, sc_RIR, sh_RIR, sc_RIRI, sh_RIRI, sc_RRII, sh_RRII, sc_RRIII, sh_RRIII, sc_RIIRR, sh_RIIRR, sc_RIIIRR, sh_RIIIRR, sc_RIIR, sh_RIIR, sc_RRIIR, sh_RRIIR, sc_RRIIIR, sh_RRIIIR, sc_RRIIIIR, sh_RRIIIIR, sc_RRIR, sh_RRIR, up_k, ast_k, up_kf, ast_kf, ne_eq, Nat.reduceEqDiff, not_false_eq_true, f1, f10, f11, FLk_ast hf]
    refine ⟨fun q => ?_, fun q => ?_⟩
    · have hp : p = 16 := by omega
      subst hp
      refine ⟨((16 - (i + 1)) * 20).toNat, by omega, z, i + 1, B, _, by omega, by omega, by omega, fun hz0 => ?_, BFR_e hD hB hB0 i0, by simp (disch := omega) only [wr_of]; rfl, rfl, rfl, rfl, rfl⟩
      intro r d r0 r1 d0 d1 hb
      have := hB.2.2 r d r0 r1 d0 d1 hb
      rw [← hz hz0] at this
      exact this
    · simp only [ast_10', ast_af f14]
      have bp := hB.2.1 p p0 (by omega)
      have b0p := hB0.2.1 p p0 (by omega)
      have dp := hD.1.2.1 p p0 (by omega)
      have dn := hD.2 p p0 (by omega)
      simp (disch := omega) only [wr_of]
      refine ⟨⟨p0, by omega⟩, ⟨p0, by omega, trivial⟩, ?_⟩
      rintro v h' ⟨x, rfl, hx, hx0, rfl⟩
      simp only [ast_ast, ac_ent, ldI, ldR, stI, stR, inc, cI, cJ, cN, bop, oAdd, oSub, oMul, oAnd, oOr, oXor, oShl, oShr, oUshr, oRem, oDiv, oMx, oMn, oI2l, oLcmp, oDup, oDup2, oDupX1, oPop, bIc, bI0, bNul, getI, getR, putI, putZ, putR, aLen, aldI, aldZ, aldJ, aldR, astI, astZ, astJ, astR, nwO, nwA, gsT, oObj, oCpy, oCln, oCst, rtI, rtZ, rtR, rtV, thr, call, callH, ac_hsel, ac_as, ac_rs, ac_cs, ac_rcv, List.map_cons, List.map_nil, List.length_cons, List.length_nil, List.replicate, List.append_nil, List.cons_append, List.nil_append, List.getElem?_cons_zero, List.getElem?_cons_succ, List.set, Nat.zero_add, Nat.add_zero, Nat.le_refl, Nat.reduceAdd, Nat.reduceSub, Nat.reduceLeDiff, Int.reduceLT, Int.reduceLE, Int.reduceNeg, Int.reduceEq, true_and, and_true, true_or, or_true, not_true_eq_false, not_false_eq_true, false_implies, true_implies, implies_true, reduceIte, and_self, Int.reduceAdd, Int.reduceMul, Int.reduceSub, eq_self, Int.add_zero, Int.zero_add, String.reduceEq, Nat.zero_le, Option.some.injEq, Sum.inl.injEq, Sum.inr.injEq, reduceCtorEq, Int.reduceToNat, Option.toList_some, Option.toList_none, ac_cs, ac_c10, ac_c11, ac_c12, ac_c13, ac_c14, ac_c15, ac_c16, ac_c17, sc_E, sh_E, sc_I, sh_I, sc_II, sh_II, sc_III, sh_III, sc_R, sh_R, sc_RI, sh_RI, sc_RII, sh_RII, sc_RIII, sh_RIII, sc_RIIII, sh_RIIII, sc_RR, sh_RR, sc_RRI, sh_RRI, sc_RRR, sh_RRR, sc_RIR, sh_RIR, sc_RIRI, sh_RIRI, sc_RRII, sh_RRII, sc_RRIII, sh_RRIII, sc_RIIRR, sh_RIIRR, sc_RIIIRR, sh_RIIIRR, sc_RIIR, sh_RIIR, sc_RRIIR, sh_RRIIR, sc_RRIIIR, sh_RRIIIR, sc_RRIIIIR, sh_RRIIIIR, sc_RRIR, sh_RRIR]
      have hs := BFR_s hD ⟨f2, f3⟩ hB p0 (by omega)
      refine ⟨fun q2 => ⟨((16 - i) * 20 - 1 - (p + 1)).toNat, by omega, z, i, p + 1, B0, _, i0, i1, by omega, by omega, by omega, fun z0 => by rw [hx0 q2]; exact hz z0, hB0, hs, rfl, rfl, rfl, rfl, rfl⟩,
        fun q2 => ⟨((16 - i) * 20 - 1 - (p + 1)).toNat, by omega, 1, i, p + 1, B0, _, i0, i1, by omega, by omega, by omega, fun z0 => absurd z0 (by omega), hB0, hs, rfl, rfl, rfl, rfl, rfl⟩⟩
  | j + 4, hI => exact hI.elim
