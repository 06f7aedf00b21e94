/-! ===== what is written and used again leaves the state ===== -/
theorem RC_10 {h g : ac_H} {x : Int} {ad s : sS} (hR : RC h x ad s) (hk : ∀ (k : Nat) (a j : Int), k ≠ 10 → k ≠ 603 → (k < 701 ∨ 708 < k) → g k a j = h k a j)
    (h10 : ∀ (t : Nat) (i j : Int), (t = 5 ∨ t = 21 ∨ t = 24 ∨ t = 25 ∨ t = 26 ∨ t = 31) → g 10 (ad t i j) = h 10 (ad t i j)) : RC g x ad s := by
  obtain ⟨hi, hf, hs, hd, hp, hc, hg, hl, hr⟩ := hR
  have K : ∀ (k : Nat), (k ≠ 10 ∧ k ≠ 603 ∧ (k < 701 ∨ 708 < k)) → ∀ a j, g k a j = h k a j := fun k e a j => hk k a j e.1 e.2.1 e.2.2
  refine ⟨⟨hi.1, fun t i j => by rw [K 0 (by omega)]; exact hi.2 t i j⟩, ?_, ?_, ?_, ?_, ?_, ?_, ?_, ?_⟩
  · unfold RCf at hf ⊢
    rw [K 0 (by omega), K 900 (by omega), K 904 (by omega), K 906 (by omega), K 908 (by omega), K 910 (by omega), K 600 (by omega), K 602 (by omega), K 604 (by omega), K 700 (by omega)]
    simp only [K 0 (by omega), K 1 (by omega)]
    exact hf
  · unfold RCs at hs ⊢
    rw [K 901 (by omega), K 902 (by omega), K 903 (by omega), K 905 (by omega), K 907 (by omega), K 909 (by omega), K 601 (by omega)]
    exact hs
  · unfold RCd at hd ⊢
    rw [h10 5 0 0 (by omega)]
    exact hd
  · intro p p0 p1
    have := hp p p0 p1
    rw [K 16 (by omega), K 0 (by omega), K 500 (by omega), K 501 (by omega), K 502 (by omega), K 0 (by omega), K 1 (by omega)]
    exact this
  · intro p i p0 p1 i0 i1
    have := hc p i p0 p1 i0 i1
    rw [K 13 (by omega), K 0 (by omega), K 100 (by omega), K 101 (by omega), K 102 (by omega)]
    exact this
  · intro d d0 d1
    have := hg d d0 d1
    rw [K 14 (by omega), K 0 (by omega), K 300 (by omega), K 301 (by omega), K 302 (by omega), K 303 (by omega), K 0 (by omega), K 1 (by omega), h10 21 d 0 (by omega), K 0 (by omega), K 1 (by omega)]
    exact this
  · intro d f d0 d1 f0 f1
    have := hl d f d0 d1 f0 f1
    rw [K 15 (by omega), K 400 (by omega), K 401 (by omega), K 402 (by omega), K 403 (by omega), K 404 (by omega), K 405 (by omega), K 406 (by omega), h10 24 d f (by omega), h10 25 d f (by omega), h10 26 d f (by omega)]
    simp only [K 0 (by omega), K 1 (by omega)]
    exact this
  · intro r r0 r1
    have := hr r r0 r1
    rw [K 17 (by omega), K 0 (by omega), K 800 (by omega), K 801 (by omega), K 802 (by omega), K 803 (by omega), K 804 (by omega), K 805 (by omega), K 0 (by omega), K 1 (by omega), h10 31 r 0 (by omega)]
    exact this
theorem RC_ast {h : ac_H} {x : Int} {ad s : sS} {t : Nat} {i j : Int} {f : Int → Int} (hR : RC h x ad s) (ht : t ≠ 5 ∧ t ≠ 21 ∧ t ≠ 24 ∧ t ≠ 25 ∧ t ≠ 26 ∧ t ≠ 31) : RC (ast h (ad t i j) f) x ad s := by
  refine RC_10 hR (fun k a z e _ _ => ast_k e) (fun t' i' j' e => ast_af fun q => ?_)
  have := (hR.1.1 _ _ _ _ _ _ q).1
  omega
theorem RC_603 {h : ac_H} {x : Int} {ad s : sS} {a j v : Int} (hR : RC h x ad s) : RC (up h 603 a j v) x ad s :=
  RC_10 hR (fun k a z _ e _ => up_k e) (fun t' i' j' e => up_kf (by decide))
theorem RC_rp {h : ac_H} {x : Int} {ad s : sS} {S : (Nat → Int) × (Int → Int)} (hR : RC h x ad s) : RC (rp h (ad 8 0 0) S) x ad s := by
  have e9 : h 700 (ad 8 0 0) 0 = ad 9 0 0 := hR.2.1.2.2.2.2.2.2.2.2.2.2.2.2.2.2.2.2.2.2.2.2.2.2.2.2.2.2.1
  refine RC_10 hR (fun k a z e _ e2 => rp_k e2 e) (fun t' i' j' e => rp_o fun q => ?_)
  rw [e9] at q
  have := (hR.1.1 _ _ _ _ _ _ q).1
  omega
theorem RC_or {h : ac_H} {x : Int} {ad s : sS} {set : Int} {n : Nat} (hR : RC h x ad s) : RC (orH h (h 900 x 0) set n) x ad s := by
  obtain ⟨f1, f2, f3, f4, f5, f6, f7, f8, f9, f10, f11, f12, -⟩ := hR.2.1
  unfold orH
  rw [f4, f12]
  exact RC_603 (RC_ast hR (by omega))
theorem CW_or {h : ac_H} {x set : Int} {n : Nat} (hC : CW h x) : CW (orH h (h 900 x 0) set n) x := by
  obtain ⟨ad, s, hR, hS⟩ := hC
  exact ⟨ad, s, RC_or hR, hS⟩
theorem nx_r {nd : Int → Int} {c w st : Int} : nx nd c w st = -1 ∨ (0 ≤ nx nd c w st ∧ nx nd c w st < c) := by
  unfold nx
  rcases fnd_cases (P := fun i => decide (¬ bt w i = 0 ∧ iand (nd i) (ixor st (-1)) = 0)) c.toNat with ⟨e, -⟩ | ⟨e1, e2, -⟩
  · exact Or.inl e
  · exact Or.inr ⟨e1, by omega⟩
theorem orA_at {nd : Int → Int} {c set : Int} {f : Int → Int} : ∀ (n i : Nat), i < n → orA nd c set f n i = ore nd c set i
  | 0, i, h => absurd h (by omega)
  | n + 1, i, h => by
    simp only [orA, fu]
    by_cases e : i = n
    · subst e; rw [if_pos rfl]
    · rw [if_neg (by omega)]; exact orA_at n i (by omega)
theorem or_pb {h : ac_H} {b set : Int} {n : Nat} (hb : PBk h b) : PBk (orH h b set n) b := by
  simp only [PBk, PKk, pk, pcr, orH_k, ne_eq, Nat.reduceEqDiff, not_false_eq_true]
  exact hb
theorem or_603 {h : ac_H} {b set : Int} {n : Nat} : orH h b set n 603 b 0 = n := by unfold orH; rw [up_self]
theorem or_10 {h : ac_H} {b set : Int} {n : Nat} : orH h b set n 10 (h 602 b 0) = orA (pnd h b) (h 601 b 0) set (h 10 (h 602 b 0)) n := by unfold orH; rw [up_kf (by decide), ast_10']
/-- the heap after the order and its rules -/
def mkH (h : ac_H) (b set : Int) (n : Nat) : ac_H := ast (orH h b set n) (h 604 b 0) (six (h 10 (h 604 b 0)) (rlB (orH h b set n) b n))
theorem mk_pre {h : ac_H} {b set : Int} {n : Nat} (hb : PBk h b) (hn : orN (pnd h b) (h 601 b 0) set n) : PBk (orH h b set n) b ∧ 0 ≤ orH h b set n 603 b 0 ∧ orH h b set n 603 b 0 ≤ 10 ∧ ∀ i, 0 ≤ i → i < orH h b set n 603 b 0 → 0 ≤ orH h b set n 10 (orH h b set n 602 b 0) i ∧ orH h b set n 10 (orH h b set n 602 b 0) i < orH h b set n 601 b 0 := by
  rw [or_603, orH_k (by decide) (by decide), or_10, orH_k (by decide) (by decide)]
  refine ⟨or_pb hb, by omega, by have := hn.1; omega, fun i i0 i1 => ?_⟩
  obtain ⟨z, rfl⟩ : ∃ z : Nat, i = z := ⟨i.toNat, by omega⟩
  rw [orA_at n z (by omega)]
  exact nx_r.resolve_left (hn.2.2 z (by omega))
theorem mk_eq {h : ac_H} {b set : Int} {n : Nat} (hb : PBk h b) : ast (orH h b set n) (orH h b set n 604 b 0) (six (orH h b set n 10 (orH h b set n 604 b 0)) (rlB (orH h b set n) b (orH h b set n 603 b 0).toNat)) = mkH h b set n := by
  have e : orH h b set n 10 (h 604 b 0) = h 10 (h 604 b 0) := by
    unfold orH; rw [up_kf (by decide), ast_af (Ne.symm hb.2.2.2.2.2.2.2.2.2.1)]
  rw [or_603, orH_k (by decide) (by decide), e]
  unfold mkH
  simp
theorem RC_mk {h : ac_H} {x : Int} {ad s : sS} {set : Int} {n : Nat} (hR : RC h x ad s) : RC (mkH h (h 900 x 0) set n) x ad s := by
  obtain ⟨f1, f2, f3, f4, f5, f6, f7, f8, f9, f10, f11, f12, f13, -⟩ := id hR.2.1
  have := RC_or (set := set) (n := n) hR
  unfold mkH
  rw [f4] at this ⊢
  rw [f13]
  exact RC_ast this (by omega)
theorem CW_mk {h : ac_H} {x set : Int} {n : Nat} (hC : CW h x) : CW (mkH h (h 900 x 0) set n) x := by
  obtain ⟨ad, s, hR, hS⟩ := hC
  exact ⟨ad, s, RC_mk hR, hS⟩
/-! the class's questions -/
def spX8_existingPack : ac_Sp := sc_RI (fun x p h => CW h x) (fun x p h v h' => h' = h ∧ 0 ≤ p ∧ p < h 601 (h 900 x 0) 0 ∧ v = some (.inr (.inl (pk h (h 900 x 0) p)))) (fun x p h E h' => E = "java/lang/IndexOutOfBoundsException" ∧ h' = h ∧ ¬ (0 ≤ p ∧ p < h 601 (h 900 x 0) 0))
set_option maxRecDepth 100000 in
set_option maxHeartbeats 4000000 in
theorem mtX8_existingPack {G : ac_G} {l : Launch} : ac_Met G l yX8_existingPack mX8_existingPack 6 92 1 6 spX8_existingPack := by
  refine ac_meth1 (pcs := pcX8_existingPack) (B := fun P X J j => vcX8_existingPack spX5_packAt P X J j) (by decide) rfl rfl rfl (fun P X J hJ j => sdX8_existingPack mtX5_packAt P X J hJ j) (hp_RI (by decide)) fun As h hp => ?_
  obtain ⟨x, p, rfl, hp⟩ := sh_RI_inv hp
  simp only [spX8_existingPack, vcX8_existingPack, mX8_existingPack, spX5_packAt, sc_RI, sh_RI, ac_ent, ldI, ldR, stI, stR, inc, cI, cJ, cN, bop, oAdd, oSub, oMul, oAnd, oOr, oXor, oShl, oShr, oUshr, oRem, oDiv, oMx, oMn, oI2l, oLcmp, oDup, oDup2, oDupX1, oPop, bIc, bI0, bNul, getI, getR, putI, putZ, putR, aLen, aldI, aldZ, aldJ, aldR, astI, astZ, astJ, astR, nwO, nwA, gsT, oObj, oCpy, oCln, oCst, rtI, rtZ, rtR, rtV, thr, call, callH, ac_hsel, ac_as, ac_rs, ac_cs, ac_rcv, List.map_cons, List.map_nil, List.length_cons, List.length_nil, List.replicate, List.append_nil, List.cons_append, List.nil_append, List.getElem?_cons_zero, List.getElem?_cons_succ, List.set, Nat.zero_add, Nat.add_zero, Nat.le_refl, Nat.reduceAdd, Nat.reduceSub, Nat.reduceLeDiff, Int.reduceLT, Int.reduceLE, Int.reduceNeg, Int.reduceEq, true_and, and_true, true_or, or_true, not_true_eq_false, not_false_eq_true, false_implies, true_implies, implies_true, reduceIte, and_self, Int.reduceAdd, Int.reduceMul, Int.reduceSub, eq_self, Int.add_zero, Int.zero_add, String.reduceEq, Nat.zero_le, Option.some.injEq, Sum.inl.injEq, Sum.inr.injEq, reduceCtorEq, Int.reduceToNat, Option.toList_some, Option.toList_none, ac_cs, ac_c10, ac_c11, ac_c12, ac_c13, ac_c14, ac_c15, ac_c16, ac_c17, sc_E, sh_E, sc_I, sh_I, sc_II, sh_II, sc_III, sh_III, sc_R, sh_R, sc_RI, sh_RI, sc_RII, sh_RII, sc_RIII, sh_RIII, sc_RIIII, sh_RIIII, sc_RR, sh_RR, sc_RRI, sh_RRI, sc_RRR, sh_RRR, sc_RIR, sh_RIR, sc_RIRI, sh_RIRI, sc_RRII, sh_RRII, sc_RRIII, sh_RRIII, sc_RIIRR, sh_RIIRR, sc_RIIIRR, sh_RIIIRR, sc_RIIR, sh_RIIR, sc_RRIIR, sh_RRIIR, sc_RRIIIR, sh_RRIIIR, sc_RRIIIIR, sh_RRIIIIR, sc_RRIR, sh_RRIR]
  obtain ⟨ad, s, hR, hS⟩ := hp
  obtain ⟨b0, hb⟩ := RC_PB hR hS
  have h1 : h 0 x 0 = 28 := hR.2.1.2.2.1
  obtain ⟨p1, p2, p3, p4, p5, p6, p7, p8, p9, p10, p11⟩ := id hb
  simp only [h1, p1, p3, p4, p5, ac_ent, ldI, ldR, stI, stR, inc, cI, cJ, cN, bop, oAdd, oSub, oMul, oAnd, oOr, oXor, oShl, oShr, oUshr, oRem, oDiv, oMx, oMn, oI2l, oLcmp, oDup, oDup2, oDupX1, oPop, bIc, bI0, bNul, getI, getR, putI, putZ, putR, aLen, aldI, aldZ, aldJ, aldR, astI, astZ, astJ, astR, nwO, nwA, gsT, oObj, oCpy, oCln, oCst, rtI, rtZ, rtR, rtV, thr, call, callH, ac_hsel, ac_as, ac_rs, ac_cs, ac_rcv, List.map_cons, List.map_nil, List.length_cons, List.length_nil, List.replicate, List.append_nil, List.cons_append, List.nil_append, List.getElem?_cons_zero, List.getElem?_cons_succ, List.set, Nat.zero_add, Nat.add_zero, Nat.le_refl, Nat.reduceAdd, Nat.reduceSub, Nat.reduceLeDiff, Int.reduceLT, Int.reduceLE, Int.reduceNeg, Int.reduceEq, true_and, and_true, true_or, or_true, not_true_eq_false, not_false_eq_true, false_implies, true_implies, implies_true, reduceIte, and_self, Int.reduceAdd, Int.reduceMul, Int.reduceSub, eq_self, Int.add_zero, Int.zero_add, String.reduceEq, Nat.zero_le, Option.some.injEq, Sum.inl.injEq, Sum.inr.injEq, reduceCtorEq, Int.reduceToNat, Option.toList_some, Option.toList_none, ac_cs, ac_c10, ac_c11, ac_c12, ac_c13, ac_c14, ac_c15, ac_c16, ac_c17, sc_E, sh_E, sc_I, sh_I, sc_II, sh_II, sc_III, sh_III, sc_R, sh_R, sc_RI, sh_RI, sc_RII, sh_RII, sc_RIII, sh_RIII, sc_RIIII, sh_RIIII, sc_RR, sh_RR, sc_RRI, sh_RRI, sc_RRR, sh_RRR, sc_RIR, sh_RIR, sc_RIRI, sh_RIRI, sc_RRII, sh_RRII, sc_RRIII, sh_RRIII, sc_RIIRR, sh_RIIRR, sc_RIIIRR, sh_RIIIRR, sc_RIIR, sh_RIIR, sc_RRIIR, sh_RRIIR, sc_RRIIIR, sh_RRIIIR, sc_RRIIIIR, sh_RRIIIIR, sc_RRIR, sh_RRIR]
  rintro v h' ⟨rfl, rfl⟩
  simp only [ac_ent, ldI, ldR, stI, stR, inc, cI, cJ, cN, bop, oAdd, oSub, oMul, oAnd, oOr, oXor, oShl, oShr, oUshr, oRem, oDiv, oMx, oMn, oI2l, oLcmp, oDup, oDup2, oDupX1, oPop, bIc, bI0, bNul, getI, getR, putI, putZ, putR, aLen, aldI, aldZ, aldJ, aldR, astI, astZ, astJ, astR, nwO, nwA, gsT, oObj, oCpy, oCln, oCst, rtI, rtZ, rtR, rtV, thr, call, callH, ac_hsel, ac_as, ac_rs, ac_cs, ac_rcv, List.map_cons, List.map_nil, List.length_cons, List.length_nil, List.replicate, List.append_nil, List.cons_append, List.nil_append, List.getElem?_cons_zero, List.getElem?_cons_succ, List.set, Nat.zero_add, Nat.add_zero, Nat.le_refl, Nat.reduceAdd, Nat.reduceSub, Nat.reduceLeDiff, Int.reduceLT, Int.reduceLE, Int.reduceNeg, Int.reduceEq, true_and, and_true, true_or, or_true, not_true_eq_false, not_false_eq_true, false_implies, true_implies, implies_true, reduceIte, and_self, Int.reduceAdd, Int.reduceMul, Int.reduceSub, eq_self, Int.add_zero, Int.zero_add, String.reduceEq, Nat.zero_le, Option.some.injEq, Sum.inl.injEq, Sum.inr.injEq, reduceCtorEq, Int.reduceToNat, Option.toList_some, Option.toList_none, ac_cs, ac_c10, ac_c11, ac_c12, ac_c13, ac_c14, ac_c15, ac_c16, ac_c17, sc_E, sh_E, sc_I, sh_I, sc_II, sh_II, sc_III, sh_III, sc_R, sh_R, sc_RI, sh_RI, sc_RII, sh_RII, sc_RIII, sh_RIII, sc_RIIII, sh_RIIII, sc_RR, sh_RR, sc_RRI, sh_RRI, sc_RRR, sh_RRR, sc_RIR, sh_RIR, sc_RIRI, sh_RIRI, sc_RRII, sh_RRII, sc_RRIII, sh_RRIII, sc_RIIRR, sh_RIIRR, sc_RIIIRR, sh_RIIIRR, sc_RIIR, sh_RIIR, sc_RRIIR, sh_RRIIR, sc_RRIIIR, sh_RRIIIR, sc_RRIIIIR, sh_RRIIIIR, sc_RRIR, sh_RRIR]
  by_cases q : 0 ≤ p ∧ p < h' 601 (h' 900 x 0) 0
  · have := (p11 p q.1 q.2).1
    unfold pk at this ⊢
    rw [if_pos q]
    exact ⟨fun e => by omega, fun _ => ⟨q.1, q.2, rfl⟩⟩
  · rw [if_neg q]
    exact ⟨fun _ => by omega, fun e => absurd rfl e⟩
def spX8_requireRule : ac_Sp := sc_I (fun r h => True) (fun r h v h' => h' = h ∧ v = none ∧ 0 ≤ r ∧ r < 6) (fun r h E h' => E = "java/lang/IndexOutOfBoundsException" ∧ h' = h ∧ ¬ (0 ≤ r ∧ r < 6))
set_option maxRecDepth 100000 in
set_option maxHeartbeats 4000000 in
theorem mtX8_requireRule {G : ac_G} {l : Launch} : ac_Met G l yX8_requireRule mX8_requireRule 6 92 1 6 spX8_requireRule := by
  refine ac_meth1 (pcs := pcX8_requireRule) (B := fun P X J j => vcX8_requireRule P X J j) (by decide) rfl rfl rfl (fun P X J hJ j => sdX8_requireRule P X J hJ j) (hp_I (by decide)) fun As h hp => ?_
  obtain ⟨r, rfl, hp⟩ := sh_I_inv hp
  simp only [spX8_requireRule, vcX8_requireRule, mX8_requireRule, sc_I, sh_I, ac_ent, ldI, ldR, stI, stR, inc, cI, cJ, cN, bop, oAdd, oSub, oMul, oAnd, oOr, oXor, oShl, oShr, oUshr, oRem, oDiv, oMx, oMn, oI2l, oLcmp, oDup, oDup2, oDupX1, oPop, bIc, bI0, bNul, getI, getR, putI, putZ, putR, aLen, aldI, aldZ, aldJ, aldR, astI, astZ, astJ, astR, nwO, nwA, gsT, oObj, oCpy, oCln, oCst, rtI, rtZ, rtR, rtV, thr, call, callH, ac_hsel, ac_as, ac_rs, ac_cs, ac_rcv, List.map_cons, List.map_nil, List.length_cons, List.length_nil, List.replicate, List.append_nil, List.cons_append, List.nil_append, List.getElem?_cons_zero, List.getElem?_cons_succ, List.set, Nat.zero_add, Nat.add_zero, Nat.le_refl, Nat.reduceAdd, Nat.reduceSub, Nat.reduceLeDiff, Int.reduceLT, Int.reduceLE, Int.reduceNeg, Int.reduceEq, true_and, and_true, true_or, or_true, not_true_eq_false, not_false_eq_true, false_implies, true_implies, implies_true, reduceIte, and_self, Int.reduceAdd, Int.reduceMul, Int.reduceSub, eq_self, Int.add_zero, Int.zero_add, String.reduceEq, Nat.zero_le, Option.some.injEq, Sum.inl.injEq, Sum.inr.injEq, reduceCtorEq, Int.reduceToNat, Option.toList_some, Option.toList_none, ac_cs, ac_c10, ac_c11, ac_c12, ac_c13, ac_c14, ac_c15, ac_c16, ac_c17, sc_E, sh_E, sc_I, sh_I, sc_II, sh_II, sc_III, sh_III, sc_R, sh_R, sc_RI, sh_RI, sc_RII, sh_RII, sc_RIII, sh_RIII, sc_RIIII, sh_RIIII, sc_RR, sh_RR, sc_RRI, sh_RRI, sc_RRR, sh_RRR, sc_RIR, sh_RIR, sc_RIRI, sh_RIRI, sc_RRII, sh_RRII, sc_RRIII, sh_RRIII, sc_RIIRR, sh_RIIRR, sc_RIIIRR, sh_RIIIRR, sc_RIIR, sh_RIIR, sc_RRIIR, sh_RRIIR, sc_RRIIIR, sh_RRIIIR, sc_RRIIIIR, sh_RRIIIIR, sc_RRIR, sh_RRIR]
  all_goals (repeat' (first | apply And.intro | intro _))
  all_goals (repeat' split)
  all_goals (first | omega | (simp_all; done) | (simp_all; omega))
def spX8_requireRoom : ac_Sp := sc_I (fun r h => True) (fun r h v h' => h' = h ∧ v = none ∧ 0 ≤ r ∧ r < 16) (fun r h E h' => E = "java/lang/IndexOutOfBoundsException" ∧ h' = h ∧ ¬ (0 ≤ r ∧ r < 16))
set_option maxRecDepth 100000 in
set_option maxHeartbeats 4000000 in
theorem mtX8_requireRoom {G : ac_G} {l : Launch} : ac_Met G l yX8_requireRoom mX8_requireRoom 6 92 1 6 spX8_requireRoom := by
  refine ac_meth1 (pcs := pcX8_requireRoom) (B := fun P X J j => vcX8_requireRoom spX8_isRoom P X J j) (by decide) rfl rfl rfl (fun P X J hJ j => sdX8_requireRoom mtX8_isRoom P X J hJ j) (hp_I (by decide)) fun As h hp => ?_
  obtain ⟨r, rfl, hp⟩ := sh_I_inv hp
  simp only [spX8_requireRoom, vcX8_requireRoom, mX8_requireRoom, spX8_isRoom, sc_I, sh_I, ac_ent, ldI, ldR, stI, stR, inc, cI, cJ, cN, bop, oAdd, oSub, oMul, oAnd, oOr, oXor, oShl, oShr, oUshr, oRem, oDiv, oMx, oMn, oI2l, oLcmp, oDup, oDup2, oDupX1, oPop, bIc, bI0, bNul, getI, getR, putI, putZ, putR, aLen, aldI, aldZ, aldJ, aldR, astI, astZ, astJ, astR, nwO, nwA, gsT, oObj, oCpy, oCln, oCst, rtI, rtZ, rtR, rtV, thr, call, callH, ac_hsel, ac_as, ac_rs, ac_cs, ac_rcv, List.map_cons, List.map_nil, List.length_cons, List.length_nil, List.replicate, List.append_nil, List.cons_append, List.nil_append, List.getElem?_cons_zero, List.getElem?_cons_succ, List.set, Nat.zero_add, Nat.add_zero, Nat.le_refl, Nat.reduceAdd, Nat.reduceSub, Nat.reduceLeDiff, Int.reduceLT, Int.reduceLE, Int.reduceNeg, Int.reduceEq, true_and, and_true, true_or, or_true, not_true_eq_false, not_false_eq_true, false_implies, true_implies, implies_true, reduceIte, and_self, Int.reduceAdd, Int.reduceMul, Int.reduceSub, eq_self, Int.add_zero, Int.zero_add, String.reduceEq, Nat.zero_le, Option.some.injEq, Sum.inl.injEq, Sum.inr.injEq, reduceCtorEq, Int.reduceToNat, Option.toList_some, Option.toList_none, ac_cs, ac_c10, ac_c11, ac_c12, ac_c13, ac_c14, ac_c15, ac_c16, ac_c17, sc_E, sh_E, sc_I, sh_I, sc_II, sh_II, sc_III, sh_III, sc_R, sh_R, sc_RI, sh_RI, sc_RII, sh_RII, sc_RIII, sh_RIII, sc_RIIII, sh_RIIII, sc_RR, sh_RR, sc_RRI, sh_RRI, sc_RRR, sh_RRR, sc_RIR, sh_RIR, sc_RIRI, sh_RIRI, sc_RRII, sh_RRII, sc_RRIII, sh_RRIII, sc_RIIRR, sh_RIIRR, sc_RIIIRR, sh_RIIIRR, sc_RIIR, sh_RIIR, sc_RRIIR, sh_RRIIR, sc_RRIIIR, sh_RRIIIR, sc_RRIIIIR, sh_RRIIIIR, sc_RRIR, sh_RRIR]
  rintro v h' ⟨rfl, rfl⟩
  simp only [ac_ent, ldI, ldR, stI, stR, inc, cI, cJ, cN, bop, oAdd, oSub, oMul, oAnd, oOr, oXor, oShl, oShr, oUshr, oRem, oDiv, oMx, oMn, oI2l, oLcmp, oDup, oDup2, oDupX1, oPop, bIc, bI0, bNul, getI, getR, putI, putZ, putR, aLen, aldI, aldZ, aldJ, aldR, astI, astZ, astJ, astR, nwO, nwA, gsT, oObj, oCpy, oCln, oCst, rtI, rtZ, rtR, rtV, thr, call, callH, ac_hsel, ac_as, ac_rs, ac_cs, ac_rcv, List.map_cons, List.map_nil, List.length_cons, List.length_nil, List.replicate, List.append_nil, List.cons_append, List.nil_append, List.getElem?_cons_zero, List.getElem?_cons_succ, List.set, Nat.zero_add, Nat.add_zero, Nat.le_refl, Nat.reduceAdd, Nat.reduceSub, Nat.reduceLeDiff, Int.reduceLT, Int.reduceLE, Int.reduceNeg, Int.reduceEq, true_and, and_true, true_or, or_true, not_true_eq_false, not_false_eq_true, false_implies, true_implies, implies_true, reduceIte, and_self, Int.reduceAdd, Int.reduceMul, Int.reduceSub, eq_self, Int.add_zero, Int.zero_add, String.reduceEq, Nat.zero_le, Option.some.injEq, Sum.inl.injEq, Sum.inr.injEq, reduceCtorEq, Int.reduceToNat, Option.toList_some, Option.toList_none, ac_cs, ac_c10, ac_c11, ac_c12, ac_c13, ac_c14, ac_c15, ac_c16, ac_c17, sc_E, sh_E, sc_I, sh_I, sc_II, sh_II, sc_III, sh_III, sc_R, sh_R, sc_RI, sh_RI, sc_RII, sh_RII, sc_RIII, sh_RIII, sc_RIIII, sh_RIIII, sc_RR, sh_RR, sc_RRI, sh_RRI, sc_RRR, sh_RRR, sc_RIR, sh_RIR, sc_RIRI, sh_RIRI, sc_RRII, sh_RRII, sc_RRIII, sh_RRIII, sc_RIIRR, sh_RIIRR, sc_RIIIRR, sh_RIIIRR, sc_RIIR, sh_RIIR, sc_RRIIR, sh_RRIIR, sc_RRIIIR, sh_RRIIIR, sc_RRIIIIR, sh_RRIIIIR, sc_RRIR, sh_RRIR]
  by_cases q : 0 ≤ r ∧ r < 16
  · rw [rm_y q.1 q.2]; exact ⟨fun e => absurd e (by decide), fun _ => q⟩
  · rw [rm_n q]; exact ⟨fun _ => q, fun e => absurd rfl e⟩
def spX8_requirePlayer : ac_Sp := sc_I (fun r h => True) (fun r h v h' => h' = h ∧ v = none ∧ 0 ≤ r ∧ r < 8) (fun r h E h' => E = "java/lang/IndexOutOfBoundsException" ∧ h' = h ∧ ¬ (0 ≤ r ∧ r < 8))
set_option maxRecDepth 100000 in
set_option maxHeartbeats 4000000 in
theorem mtX8_requirePlayer {G : ac_G} {l : Launch} : ac_Met G l yX8_requirePlayer mX8_requirePlayer 6 92 1 6 spX8_requirePlayer := by
  refine ac_meth1 (pcs := pcX8_requirePlayer) (B := fun P X J j => vcX8_requirePlayer P X J j) (by decide) rfl rfl rfl (fun P X J hJ j => sdX8_requirePlayer P X J hJ j) (hp_I (by decide)) fun As h hp => ?_
  obtain ⟨r, rfl, hp⟩ := sh_I_inv hp
  simp only [spX8_requirePlayer, vcX8_requirePlayer, mX8_requirePlayer, sc_I, sh_I, ac_ent, ldI, ldR, stI, stR, inc, cI, cJ, cN, bop, oAdd, oSub, oMul, oAnd, oOr, oXor, oShl, oShr, oUshr, oRem, oDiv, oMx, oMn, oI2l, oLcmp, oDup, oDup2, oDupX1, oPop, bIc, bI0, bNul, getI, getR, putI, putZ, putR, aLen, aldI, aldZ, aldJ, aldR, astI, astZ, astJ, astR, nwO, nwA, gsT, oObj, oCpy, oCln, oCst, rtI, rtZ, rtR, rtV, thr, call, callH, ac_hsel, ac_as, ac_rs, ac_cs, ac_rcv, List.map_cons, List.map_nil, List.length_cons, List.length_nil, List.replicate, List.append_nil, List.cons_append, List.nil_append, List.getElem?_cons_zero, List.getElem?_cons_succ, List.set, Nat.zero_add, Nat.add_zero, Nat.le_refl, Nat.reduceAdd, Nat.reduceSub, Nat.reduceLeDiff, Int.reduceLT, Int.reduceLE, Int.reduceNeg, Int.reduceEq, true_and, and_true, true_or, or_true, not_true_eq_false, not_false_eq_true, false_implies, true_implies, implies_true, reduceIte, and_self, Int.reduceAdd, Int.reduceMul, Int.reduceSub, eq_self, Int.add_zero, Int.zero_add, String.reduceEq, Nat.zero_le, Option.some.injEq, Sum.inl.injEq, Sum.inr.injEq, reduceCtorEq, Int.reduceToNat, Option.toList_some, Option.toList_none, ac_cs, ac_c10, ac_c11, ac_c12, ac_c13, ac_c14, ac_c15, ac_c16, ac_c17, sc_E, sh_E, sc_I, sh_I, sc_II, sh_II, sc_III, sh_III, sc_R, sh_R, sc_RI, sh_RI, sc_RII, sh_RII, sc_RIII, sh_RIII, sc_RIIII, sh_RIIII, sc_RR, sh_RR, sc_RRI, sh_RRI, sc_RRR, sh_RRR, sc_RIR, sh_RIR, sc_RIRI, sh_RIRI, sc_RRII, sh_RRII, sc_RRIII, sh_RRIII, sc_RIIRR, sh_RIIRR, sc_RIIIRR, sh_RIIIRR, sc_RIIR, sh_RIIR, sc_RRIIR, sh_RRIIR, sc_RRIIIR, sh_RRIIIR, sc_RRIIIIR, sh_RRIIIIR, sc_RRIR, sh_RRIR]
  all_goals (repeat' (first | apply And.intro | intro _))
  all_goals (repeat' split)
  all_goals (first | omega | (simp_all; done) | (simp_all; omega))
def spX8_requirePacks : ac_Sp := sc_RI (fun x set h => CW h x) (fun x set h v h' => h' = h ∧ v = none ∧ iushr set (h 601 (h 900 x 0) 0) = 0) (fun x set h E h' => E = "java/lang/IllegalArgumentException" ∧ h' = h ∧ ¬ iushr set (h 601 (h 900 x 0) 0) = 0)
set_option maxRecDepth 100000 in
set_option maxHeartbeats 4000000 in
theorem mtX8_requirePacks {G : ac_G} {l : Launch} : ac_Met G l yX8_requirePacks mX8_requirePacks 6 92 1 6 spX8_requirePacks := by
  refine ac_meth1 (pcs := pcX8_requirePacks) (B := fun P X J j => vcX8_requirePacks spX5_hasAll P X J j) (by decide) rfl rfl rfl (fun P X J hJ j => sdX8_requirePacks mtX5_hasAll P X J hJ j) (hp_RI (by decide)) fun As h hp => ?_
  obtain ⟨x, set, rfl, hp⟩ := sh_RI_inv hp
  simp only [spX8_requirePacks, vcX8_requirePacks, mX8_requirePacks, spX5_hasAll, sc_RI, sh_RI, ac_ent, ldI, ldR, stI, stR, inc, cI, cJ, cN, bop, oAdd, oSub, oMul, oAnd, oOr, oXor, oShl, oShr, oUshr, oRem, oDiv, oMx, oMn, oI2l, oLcmp, oDup, oDup2, oDupX1, oPop, bIc, bI0, bNul, getI, getR, putI, putZ, putR, aLen, aldI, aldZ, aldJ, aldR, astI, astZ, astJ, astR, nwO, nwA, gsT, oObj, oCpy, oCln, oCst, rtI, rtZ, rtR, rtV, thr, call, callH, ac_hsel, ac_as, ac_rs, ac_cs, ac_rcv, List.map_cons, List.map_nil, List.length_cons, List.length_nil, List.replicate, List.append_nil, List.cons_append, List.nil_append, List.getElem?_cons_zero, List.getElem?_cons_succ, List.set, Nat.zero_add, Nat.add_zero, Nat.le_refl, Nat.reduceAdd, Nat.reduceSub, Nat.reduceLeDiff, Int.reduceLT, Int.reduceLE, Int.reduceNeg, Int.reduceEq, true_and, and_true, true_or, or_true, not_true_eq_false, not_false_eq_true, false_implies, true_implies, implies_true, reduceIte, and_self, Int.reduceAdd, Int.reduceMul, Int.reduceSub, eq_self, Int.add_zero, Int.zero_add, String.reduceEq, Nat.zero_le, Option.some.injEq, Sum.inl.injEq, Sum.inr.injEq, reduceCtorEq, Int.reduceToNat, Option.toList_some, Option.toList_none, ac_cs, ac_c10, ac_c11, ac_c12, ac_c13, ac_c14, ac_c15, ac_c16, ac_c17, sc_E, sh_E, sc_I, sh_I, sc_II, sh_II, sc_III, sh_III, sc_R, sh_R, sc_RI, sh_RI, sc_RII, sh_RII, sc_RIII, sh_RIII, sc_RIIII, sh_RIIII, sc_RR, sh_RR, sc_RRI, sh_RRI, sc_RRR, sh_RRR, sc_RIR, sh_RIR, sc_RIRI, sh_RIRI, sc_RRII, sh_RRII, sc_RRIII, sh_RRIII, sc_RIIRR, sh_RIIRR, sc_RIIIRR, sh_RIIIRR, sc_RIIR, sh_RIIR, sc_RRIIR, sh_RRIIR, sc_RRIIIR, sh_RRIIIR, sc_RRIIIIR, sh_RRIIIIR, sc_RRIR, sh_RRIR]
  obtain ⟨ad, s, hR, hS⟩ := hp
  obtain ⟨b0, hb⟩ := RC_PB hR hS
  have h1 : h 0 x 0 = 28 := hR.2.1.2.2.1
  have p1 := hb.1
  simp only [h1, p1, ac_ent, ldI, ldR, stI, stR, inc, cI, cJ, cN, bop, oAdd, oSub, oMul, oAnd, oOr, oXor, oShl, oShr, oUshr, oRem, oDiv, oMx, oMn, oI2l, oLcmp, oDup, oDup2, oDupX1, oPop, bIc, bI0, bNul, getI, getR, putI, putZ, putR, aLen, aldI, aldZ, aldJ, aldR, astI, astZ, astJ, astR, nwO, nwA, gsT, oObj, oCpy, oCln, oCst, rtI, rtZ, rtR, rtV, thr, call, callH, ac_hsel, ac_as, ac_rs, ac_cs, ac_rcv, List.map_cons, List.map_nil, List.length_cons, List.length_nil, List.replicate, List.append_nil, List.cons_append, List.nil_append, List.getElem?_cons_zero, List.getElem?_cons_succ, List.set, Nat.zero_add, Nat.add_zero, Nat.le_refl, Nat.reduceAdd, Nat.reduceSub, Nat.reduceLeDiff, Int.reduceLT, Int.reduceLE, Int.reduceNeg, Int.reduceEq, true_and, and_true, true_or, or_true, not_true_eq_false, not_false_eq_true, false_implies, true_implies, implies_true, reduceIte, and_self, Int.reduceAdd, Int.reduceMul, Int.reduceSub, eq_self, Int.add_zero, Int.zero_add, String.reduceEq, Nat.zero_le, Option.some.injEq, Sum.inl.injEq, Sum.inr.injEq, reduceCtorEq, Int.reduceToNat, Option.toList_some, Option.toList_none, ac_cs, ac_c10, ac_c11, ac_c12, ac_c13, ac_c14, ac_c15, ac_c16, ac_c17, sc_E, sh_E, sc_I, sh_I, sc_II, sh_II, sc_III, sh_III, sc_R, sh_R, sc_RI, sh_RI, sc_RII, sh_RII, sc_RIII, sh_RIII, sc_RIIII, sh_RIIII, sc_RR, sh_RR, sc_RRI, sh_RRI, sc_RRR, sh_RRR, sc_RIR, sh_RIR, sc_RIRI, sh_RIRI, sc_RRII, sh_RRII, sc_RRIII, sh_RRIII, sc_RIIRR, sh_RIIRR, sc_RIIIRR, sh_RIIIRR, sc_RIIR, sh_RIIR, sc_RRIIR, sh_RRIIR, sc_RRIIIR, sh_RRIIIR, sc_RRIIIIR, sh_RRIIIIR, sc_RRIR, sh_RRIR]
  rintro v h' ⟨rfl, rfl⟩
  simp only [ac_ent, ldI, ldR, stI, stR, inc, cI, cJ, cN, bop, oAdd, oSub, oMul, oAnd, oOr, oXor, oShl, oShr, oUshr, oRem, oDiv, oMx, oMn, oI2l, oLcmp, oDup, oDup2, oDupX1, oPop, bIc, bI0, bNul, getI, getR, putI, putZ, putR, aLen, aldI, aldZ, aldJ, aldR, astI, astZ, astJ, astR, nwO, nwA, gsT, oObj, oCpy, oCln, oCst, rtI, rtZ, rtR, rtV, thr, call, callH, ac_hsel, ac_as, ac_rs, ac_cs, ac_rcv, List.map_cons, List.map_nil, List.length_cons, List.length_nil, List.replicate, List.append_nil, List.cons_append, List.nil_append, List.getElem?_cons_zero, List.getElem?_cons_succ, List.set, Nat.zero_add, Nat.add_zero, Nat.le_refl, Nat.reduceAdd, Nat.reduceSub, Nat.reduceLeDiff, Int.reduceLT, Int.reduceLE, Int.reduceNeg, Int.reduceEq, true_and, and_true, true_or, or_true, not_true_eq_false, not_false_eq_true, false_implies, true_implies, implies_true, reduceIte, and_self, Int.reduceAdd, Int.reduceMul, Int.reduceSub, eq_self, Int.add_zero, Int.zero_add, String.reduceEq, Nat.zero_le, Option.some.injEq, Sum.inl.injEq, Sum.inr.injEq, reduceCtorEq, Int.reduceToNat, Option.toList_some, Option.toList_none, ac_cs, ac_c10, ac_c11, ac_c12, ac_c13, ac_c14, ac_c15, ac_c16, ac_c17, sc_E, sh_E, sc_I, sh_I, sc_II, sh_II, sc_III, sh_III, sc_R, sh_R, sc_RI, sh_RI, sc_RII, sh_RII, sc_RIII, sh_RIII, sc_RIIII, sh_RIIII, sc_RR, sh_RR, sc_RRI, sh_RRI, sc_RRR, sh_RRR, sc_RIR, sh_RIR, sc_RIRI, sh_RIRI, sc_RRII, sh_RRII, sc_RRIII, sh_RRIII, sc_RIIRR, sh_RIIRR, sc_RIIIRR, sh_RIIIRR, sc_RIIR, sh_RIIR, sc_RRIIR, sh_RRIIR, sc_RRIIIR, sh_RRIIIR, sc_RRIIIIR, sh_RRIIIIR, sc_RRIR, sh_RRIR]
  by_cases q : iushr set (h' 601 (h' 900 x 0) 0) = 0
  · rw [if_pos q]; exact ⟨fun e => absurd e (by decide), fun _ => q⟩
  · rw [if_neg q]; exact ⟨fun _ => q, fun e => absurd rfl e⟩
def spX8_requireOrder : ac_Sp := sc_RI (fun x set h => CW h x) (fun x set h v h' => v = none ∧ ∃ n, orN (pnd h (h 900 x 0)) (h 601 (h 900 x 0) 0) set n ∧ stp (pnd h (h 900 x 0)) (h 601 (h 900 x 0) 0) set n = set ∧ h' = orH h (h 900 x 0) set n)
  (fun x set h E h' => E = "java/lang/IllegalStateException" ∧ ∃ n, orN (pnd h (h 900 x 0)) (h 601 (h 900 x 0) 0) set n ∧ ¬ stp (pnd h (h 900 x 0)) (h 601 (h 900 x 0) 0) set n = set ∧ h' = orH h (h 900 x 0) set n)
set_option maxRecDepth 100000 in
set_option maxHeartbeats 4000000 in
theorem mtX8_requireOrder {G : ac_G} {l : Launch} : ac_Met G l yX8_requireOrder mX8_requireOrder 6 92 1 6 spX8_requireOrder := by
  refine ac_meth1 (pcs := pcX8_requireOrder) (B := fun P X J j => vcX8_requireOrder spX5_putInOrder P X J j) (by decide) rfl rfl rfl (fun P X J hJ j => sdX8_requireOrder mtX5_putInOrder P X J hJ j) (hp_RI (by decide)) fun As h hp => ?_
  obtain ⟨x, set, rfl, hp⟩ := sh_RI_inv hp
  simp only [spX8_requireOrder, vcX8_requireOrder, mX8_requireOrder, spX5_putInOrder, sc_RI, sh_RI, ac_ent, ldI, ldR, stI, stR, inc, cI, cJ, cN, bop, oAdd, oSub, oMul, oAnd, oOr, oXor, oShl, oShr, oUshr, oRem, oDiv, oMx, oMn, oI2l, oLcmp, oDup, oDup2, oDupX1, oPop, bIc, bI0, bNul, getI, getR, putI, putZ, putR, aLen, aldI, aldZ, aldJ, aldR, astI, astZ, astJ, astR, nwO, nwA, gsT, oObj, oCpy, oCln, oCst, rtI, rtZ, rtR, rtV, thr, call, callH, ac_hsel, ac_as, ac_rs, ac_cs, ac_rcv, List.map_cons, List.map_nil, List.length_cons, List.length_nil, List.replicate, List.append_nil, List.cons_append, List.nil_append, List.getElem?_cons_zero, List.getElem?_cons_succ, List.set, Nat.zero_add, Nat.add_zero, Nat.le_refl, Nat.reduceAdd, Nat.reduceSub, Nat.reduceLeDiff, Int.reduceLT, Int.reduceLE, Int.reduceNeg, Int.reduceEq, true_and, and_true, true_or, or_true, not_true_eq_false, not_false_eq_true, false_implies, true_implies, implies_true, reduceIte, and_self, Int.reduceAdd, Int.reduceMul, Int.reduceSub, eq_self, Int.add_zero, Int.zero_add, String.reduceEq, Nat.zero_le, Option.some.injEq, Sum.inl.injEq, Sum.inr.injEq, reduceCtorEq, Int.reduceToNat, Option.toList_some, Option.toList_none, ac_cs, ac_c10, ac_c11, ac_c12, ac_c13, ac_c14, ac_c15, ac_c16, ac_c17, sc_E, sh_E, sc_I, sh_I, sc_II, sh_II, sc_III, sh_III, sc_R, sh_R, sc_RI, sh_RI, sc_RII, sh_RII, sc_RIII, sh_RIII, sc_RIIII, sh_RIIII, sc_RR, sh_RR, sc_RRI, sh_RRI, sc_RRR, sh_RRR, sc_RIR, sh_RIR, sc_RIRI, sh_RIRI, sc_RRII, sh_RRII, sc_RRIII, sh_RRIII, sc_RIIRR, sh_RIIRR, sc_RIIIRR, sh_RIIIRR, sc_RIIR, sh_RIIR, sc_RRIIR, sh_RRIIR, sc_RRIIIR, sh_RRIIIR, sc_RRIIIIR, sh_RRIIIIR, sc_RRIR, sh_RRIR]
  obtain ⟨ad, s, hR, hS⟩ := hp
  obtain ⟨b0, hb⟩ := RC_PB hR hS
  have h1 : h 0 x 0 = 28 := hR.2.1.2.2.1
  have p1 := hb.1
  simp only [h1, p1, hb, ac_ent, ldI, ldR, stI, stR, inc, cI, cJ, cN, bop, oAdd, oSub, oMul, oAnd, oOr, oXor, oShl, oShr, oUshr, oRem, oDiv, oMx, oMn, oI2l, oLcmp, oDup, oDup2, oDupX1, oPop, bIc, bI0, bNul, getI, getR, putI, putZ, putR, aLen, aldI, aldZ, aldJ, aldR, astI, astZ, astJ, astR, nwO, nwA, gsT, oObj, oCpy, oCln, oCst, rtI, rtZ, rtR, rtV, thr, call, callH, ac_hsel, ac_as, ac_rs, ac_cs, ac_rcv, List.map_cons, List.map_nil, List.length_cons, List.length_nil, List.replicate, List.append_nil, List.cons_append, List.nil_append, List.getElem?_cons_zero, List.getElem?_cons_succ, List.set, Nat.zero_add, Nat.add_zero, Nat.le_refl, Nat.reduceAdd, Nat.reduceSub, Nat.reduceLeDiff, Int.reduceLT, Int.reduceLE, Int.reduceNeg, Int.reduceEq, true_and, and_true, true_or, or_true, not_true_eq_false, not_false_eq_true, false_implies, true_implies, implies_true, reduceIte, and_self, Int.reduceAdd, Int.reduceMul, Int.reduceSub, eq_self, Int.add_zero, Int.zero_add, String.reduceEq, Nat.zero_le, Option.some.injEq, Sum.inl.injEq, Sum.inr.injEq, reduceCtorEq, Int.reduceToNat, Option.toList_some, Option.toList_none, ac_cs, ac_c10, ac_c11, ac_c12, ac_c13, ac_c14, ac_c15, ac_c16, ac_c17, sc_E, sh_E, sc_I, sh_I, sc_II, sh_II, sc_III, sh_III, sc_R, sh_R, sc_RI, sh_RI, sc_RII, sh_RII, sc_RIII, sh_RIII, sc_RIIII, sh_RIIII, sc_RR, sh_RR, sc_RRI, sh_RRI, sc_RRR, sh_RRR, sc_RIR, sh_RIR, sc_RIRI, sh_RIRI, sc_RRII, sh_RRII, sc_RRIII, sh_RRIII, sc_RIIRR, sh_RIIRR, sc_RIIIRR, sh_RIIIRR, sc_RIIR, sh_RIIR, sc_RRIIR, sh_RRIIR, sc_RRIIIR, sh_RRIIIR, sc_RRIIIIR, sh_RRIIIIR, sc_RRIR, sh_RRIR]
  rintro v h' ⟨n, hn, rfl, rfl⟩
  simp only [ac_ent, ldI, ldR, stI, stR, inc, cI, cJ, cN, bop, oAdd, oSub, oMul, oAnd, oOr, oXor, oShl, oShr, oUshr, oRem, oDiv, oMx, oMn, oI2l, oLcmp, oDup, oDup2, oDupX1, oPop, bIc, bI0, bNul, getI, getR, putI, putZ, putR, aLen, aldI, aldZ, aldJ, aldR, astI, astZ, astJ, astR, nwO, nwA, gsT, oObj, oCpy, oCln, oCst, rtI, rtZ, rtR, rtV, thr, call, callH, ac_hsel, ac_as, ac_rs, ac_cs, ac_rcv, List.map_cons, List.map_nil, List.length_cons, List.length_nil, List.replicate, List.append_nil, List.cons_append, List.nil_append, List.getElem?_cons_zero, List.getElem?_cons_succ, List.set, Nat.zero_add, Nat.add_zero, Nat.le_refl, Nat.reduceAdd, Nat.reduceSub, Nat.reduceLeDiff, Int.reduceLT, Int.reduceLE, Int.reduceNeg, Int.reduceEq, true_and, and_true, true_or, or_true, not_true_eq_false, not_false_eq_true, false_implies, true_implies, implies_true, reduceIte, and_self, Int.reduceAdd, Int.reduceMul, Int.reduceSub, eq_self, Int.add_zero, Int.zero_add, String.reduceEq, Nat.zero_le, Option.some.injEq, Sum.inl.injEq, Sum.inr.injEq, reduceCtorEq, Int.reduceToNat, Option.toList_some, Option.toList_none, ac_cs, ac_c10, ac_c11, ac_c12, ac_c13, ac_c14, ac_c15, ac_c16, ac_c17, sc_E, sh_E, sc_I, sh_I, sc_II, sh_II, sc_III, sh_III, sc_R, sh_R, sc_RI, sh_RI, sc_RII, sh_RII, sc_RIII, sh_RIII, sc_RIIII, sh_RIIII, sc_RR, sh_RR, sc_RRI, sh_RRI, sc_RRR, sh_RRR, sc_RIR, sh_RIR, sc_RIRI, sh_RIRI, sc_RRII, sh_RRII, sc_RRIII, sh_RRIII, sc_RIIRR, sh_RIIRR, sc_RIIIRR, sh_RIIIRR, sc_RIIR, sh_RIIR, sc_RRIIR, sh_RRIIR, sc_RRIIIR, sh_RRIIIR, sc_RRIIIIR, sh_RRIIIIR, sc_RRIR, sh_RRIR]
  by_cases q : stp (pnd h (h 900 x 0)) (h 601 (h 900 x 0) 0) set n = set
  · rw [if_pos q]; exact ⟨fun e => absurd e (by decide), fun _ => ⟨n, hn, q, rfl⟩⟩
  · rw [if_neg q]; exact ⟨fun _ => ⟨n, hn, q, rfl⟩, fun e => absurd rfl e⟩
def spX8_makeRulesToday : ac_Sp := sc_R (fun x h => CW h x) (fun x h v h' => (h 901 x 0 = 0 ∧ v = some (.inl 0) ∧ h' = h) ∨ (h 901 x 0 ≠ 0 ∧ ∃ n, orN (pnd h (h 900 x 0)) (h 601 (h 900 x 0) 0) (h 903 x 0) n ∧ ((stp (pnd h (h 900 x 0)) (h 601 (h 900 x 0) 0) (h 903 x 0) n = h 903 x 0 ∧ v = some (.inl 1) ∧ h' = mkH h (h 900 x 0) (h 903 x 0) n) ∨ (¬ stp (pnd h (h 900 x 0)) (h 601 (h 900 x 0) 0) (h 903 x 0) n = h 903 x 0 ∧ v = some (.inl 0) ∧ h' = orH h (h 900 x 0) (h 903 x 0) n)))) (fun _ _ _ _ => False)
set_option maxRecDepth 100000 in
set_option maxHeartbeats 4000000 in
theorem mtX8_makeRulesToday {G : ac_G} {l : Launch} : ac_Met G l yX8_makeRulesToday mX8_makeRulesToday 4 88 0 0 spX8_makeRulesToday := by
  refine ac_meth1 (pcs := pcX8_makeRulesToday) (B := fun P X J j => vcX8_makeRulesToday spX5_putInOrder spX5_makeRules P X J j) (by decide) rfl rfl rfl (fun P X J hJ j => sdX8_makeRulesToday mtX5_putInOrder mtX5_makeRules P X J hJ j) (hp_R (by decide)) fun As h hp => ?_
  obtain ⟨x, rfl, hp⟩ := sh_R_inv hp
  simp only [spX8_makeRulesToday, vcX8_makeRulesToday, mX8_makeRulesToday, spX5_putInOrder, spX5_makeRules, sc_R, sh_R, ac_ent, ldI, ldR, stI, stR, inc, cI, cJ, cN, bop, oAdd, oSub, oMul, oAnd, oOr, oXor, oShl, oShr, oUshr, oRem, oDiv, oMx, oMn, oI2l, oLcmp, oDup, oDup2, oDupX1, oPop, bIc, bI0, bNul, getI, getR, putI, putZ, putR, aLen, aldI, aldZ, aldJ, aldR, astI, astZ, astJ, astR, nwO, nwA, gsT, oObj, oCpy, oCln, oCst, rtI, rtZ, rtR, rtV, thr, call, callH, ac_hsel, ac_as, ac_rs, ac_cs, ac_rcv, List.map_cons, List.map_nil, List.length_cons, List.length_nil, List.replicate, List.append_nil, List.cons_append, List.nil_append, List.getElem?_cons_zero, List.getElem?_cons_succ, List.set, Nat.zero_add, Nat.add_zero, Nat.le_refl, Nat.reduceAdd, Nat.reduceSub, Nat.reduceLeDiff, Int.reduceLT, Int.reduceLE, Int.reduceNeg, Int.reduceEq, true_and, and_true, true_or, or_true, not_true_eq_false, not_false_eq_true, false_implies, true_implies, implies_true, reduceIte, and_self, Int.reduceAdd, Int.reduceMul, Int.reduceSub, eq_self, Int.add_zero, Int.zero_add, String.reduceEq, Nat.zero_le, Option.some.injEq, Sum.inl.injEq, Sum.inr.injEq, reduceCtorEq, Int.reduceToNat, Option.toList_some, Option.toList_none, ac_cs, ac_c10, ac_c11, ac_c12, ac_c13, ac_c14, ac_c15, ac_c16, ac_c17, sc_E, sh_E, sc_I, sh_I, sc_II, sh_II, sc_III, sh_III, sc_R, sh_R, sc_RI, sh_RI, sc_RII, sh_RII, sc_RIII, sh_RIII, sc_RIIII, sh_RIIII, sc_RR, sh_RR, sc_RRI, sh_RRI, sc_RRR, sh_RRR, sc_RIR, sh_RIR, sc_RIRI, sh_RIRI, sc_RRII, sh_RRII, sc_RRIII, sh_RRIII, sc_RIIRR, sh_RIIRR, sc_RIIIRR, sh_RIIIRR, sc_RIIR, sh_RIIR, sc_RRIIR, sh_RRIIR, sc_RRIIIR, sh_RRIIIR, sc_RRIIIIR, sh_RRIIIIR, sc_RRIR, sh_RRIR]
  obtain ⟨ad, s, hR, hS⟩ := hp
  obtain ⟨b0, hb⟩ := RC_PB hR hS
  have h1 : h 0 x 0 = 28 := hR.2.1.2.2.1
  have p1 := hb.1
  simp only [h1, p1, hb, ac_ent, ldI, ldR, stI, stR, inc, cI, cJ, cN, bop, oAdd, oSub, oMul, oAnd, oOr, oXor, oShl, oShr, oUshr, oRem, oDiv, oMx, oMn, oI2l, oLcmp, oDup, oDup2, oDupX1, oPop, bIc, bI0, bNul, getI, getR, putI, putZ, putR, aLen, aldI, aldZ, aldJ, aldR, astI, astZ, astJ, astR, nwO, nwA, gsT, oObj, oCpy, oCln, oCst, rtI, rtZ, rtR, rtV, thr, call, callH, ac_hsel, ac_as, ac_rs, ac_cs, ac_rcv, List.map_cons, List.map_nil, List.length_cons, List.length_nil, List.replicate, List.append_nil, List.cons_append, List.nil_append, List.getElem?_cons_zero, List.getElem?_cons_succ, List.set, Nat.zero_add, Nat.add_zero, Nat.le_refl, Nat.reduceAdd, Nat.reduceSub, Nat.reduceLeDiff, Int.reduceLT, Int.reduceLE, Int.reduceNeg, Int.reduceEq, true_and, and_true, true_or, or_true, not_true_eq_false, not_false_eq_true, false_implies, true_implies, implies_true, reduceIte, and_self, Int.reduceAdd, Int.reduceMul, Int.reduceSub, eq_self, Int.add_zero, Int.zero_add, String.reduceEq, Nat.zero_le, Option.some.injEq, Sum.inl.injEq, Sum.inr.injEq, reduceCtorEq, Int.reduceToNat, Option.toList_some, Option.toList_none, ac_cs, ac_c10, ac_c11, ac_c12, ac_c13, ac_c14, ac_c15, ac_c16, ac_c17, sc_E, sh_E, sc_I, sh_I, sc_II, sh_II, sc_III, sh_III, sc_R, sh_R, sc_RI, sh_RI, sc_RII, sh_RII, sc_RIII, sh_RIII, sc_RIIII, sh_RIIII, sc_RR, sh_RR, sc_RRI, sh_RRI, sc_RRR, sh_RRR, sc_RIR, sh_RIR, sc_RIRI, sh_RIRI, sc_RRII, sh_RRII, sc_RRIII, sh_RRIII, sc_RIIRR, sh_RIIRR, sc_RIIIRR, sh_RIIIRR, sc_RIIR, sh_RIIR, sc_RRIIR, sh_RRIIR, sc_RRIIIR, sh_RRIIIR, sc_RRIIIIR, sh_RRIIIIR, sc_RRIR, sh_RRIR]
  refine ⟨fun e => Or.inl e, fun e => ?_⟩
  rintro v h' ⟨n, hn, rfl, rfl⟩
  simp only [orH_k, h1, p1, up_k, ast_k, up_kf, ast_kf, ne_eq, Nat.reduceEqDiff, not_false_eq_true, ac_ent, ldI, ldR, stI, stR, inc, cI, cJ, cN, bop, oAdd, oSub, oMul, oAnd, oOr, oXor, oShl, oShr, oUshr, oRem, oDiv, oMx, oMn, oI2l, oLcmp, oDup, oDup2, oDupX1, oPop, bIc, bI0, bNul, getI, getR, putI, putZ, putR, aLen, aldI, aldZ, aldJ, aldR, astI, astZ, astJ, astR, nwO, nwA, gsT, oObj, oCpy, oCln, oCst, rtI, rtZ, rtR, rtV, thr, call, callH, ac_hsel, ac_as, ac_rs, ac_cs, ac_rcv, List.map_cons, List.map_nil, List.length_cons, List.length_nil, List.replicate, List.append_nil, List.cons_append, List.nil_append, List.getElem?_cons_zero, List.getElem?_cons_succ, List.set, Nat.zero_add, Nat.add_zero, Nat.le_refl, Nat.reduceAdd, Nat.reduceSub, Nat.reduceLeDiff, Int.reduceLT, Int.reduceLE, Int.reduceNeg, Int.reduceEq, true_and, and_true, true_or, or_true, not_true_eq_false, not_false_eq_true, false_implies, true_implies, implies_true, reduceIte, and_self, Int.reduceAdd, Int.reduceMul, Int.reduceSub, eq_self, Int.add_zero, Int.zero_add, String.reduceEq, Nat.zero_le, Option.some.injEq, Sum.inl.injEq, Sum.inr.injEq, reduceCtorEq, Int.reduceToNat, Option.toList_some, Option.toList_none, ac_cs, ac_c10, ac_c11, ac_c12, ac_c13, ac_c14, ac_c15, ac_c16, ac_c17, sc_E, sh_E, sc_I, sh_I, sc_II, sh_II, sc_III, sh_III, sc_R, sh_R, sc_RI, sh_RI, sc_RII, sh_RII, sc_RIII, sh_RIII, sc_RIIII, sh_RIIII, sc_RR, sh_RR, sc_RRI, sh_RRI, sc_RRR, sh_RRR, sc_RIR, sh_RIR, sc_RIRI, sh_RIRI, sc_RRII, sh_RRII, sc_RRIII, sh_RRIII, sc_RIIRR, sh_RIIRR, sc_RIIIRR, sh_RIIIRR, sc_RIIR, sh_RIIR, sc_RRIIR, sh_RRIIR, sc_RRIIIR, sh_RRIIIR, sc_RRIIIIR, sh_RRIIIIR, sc_RRIR, sh_RRIR]
  obtain ⟨m1, m2, m3, m4⟩ := mk_pre hb hn
  have m5 := mk_eq (set := h 903 x 0) (n := n) hb
  by_cases q : stp (pnd h (h 900 x 0)) (h 601 (h 900 x 0) 0) (h 903 x 0) n = h 903 x 0
  · rw [if_pos q]
    refine ⟨fun e => absurd e (by decide), fun _ => ⟨⟨m1, m2, m3, ?_⟩, ?_⟩⟩
    · simp only [orH_k, up_k, ast_k, up_kf, ast_kf, ne_eq, Nat.reduceEqDiff, not_false_eq_true] at m4
      exact m4
    · rintro v h' ⟨rfl, rfl⟩
      simp only [ac_ent, ldI, ldR, stI, stR, inc, cI, cJ, cN, bop, oAdd, oSub, oMul, oAnd, oOr, oXor, oShl, oShr, oUshr, oRem, oDiv, oMx, oMn, oI2l, oLcmp, oDup, oDup2, oDupX1, oPop, bIc, bI0, bNul, getI, getR, putI, putZ, putR, aLen, aldI, aldZ, aldJ, aldR, astI, astZ, astJ, astR, nwO, nwA, gsT, oObj, oCpy, oCln, oCst, rtI, rtZ, rtR, rtV, thr, call, callH, ac_hsel, ac_as, ac_rs, ac_cs, ac_rcv, List.map_cons, List.map_nil, List.length_cons, List.length_nil, List.replicate, List.append_nil, List.cons_append, List.nil_append, List.getElem?_cons_zero, List.getElem?_cons_succ, List.set, Nat.zero_add, Nat.add_zero, Nat.le_refl, Nat.reduceAdd, Nat.reduceSub, Nat.reduceLeDiff, Int.reduceLT, Int.reduceLE, Int.reduceNeg, Int.reduceEq, true_and, and_true, true_or, or_true, not_true_eq_false, not_false_eq_true, false_implies, true_implies, implies_true, reduceIte, and_self, Int.reduceAdd, Int.reduceMul, Int.reduceSub, eq_self, Int.add_zero, Int.zero_add, String.reduceEq, Nat.zero_le, Option.some.injEq, Sum.inl.injEq, Sum.inr.injEq, reduceCtorEq, Int.reduceToNat, Option.toList_some, Option.toList_none, ac_cs, ac_c10, ac_c11, ac_c12, ac_c13, ac_c14, ac_c15, ac_c16, ac_c17, sc_E, sh_E, sc_I, sh_I, sc_II, sh_II, sc_III, sh_III, sc_R, sh_R, sc_RI, sh_RI, sc_RII, sh_RII, sc_RIII, sh_RIII, sc_RIIII, sh_RIIII, sc_RR, sh_RR, sc_RRI, sh_RRI, sc_RRR, sh_RRR, sc_RIR, sh_RIR, sc_RIRI, sh_RIRI, sc_RRII, sh_RRII, sc_RRIII, sh_RRIII, sc_RIIRR, sh_RIIRR, sc_RIIIRR, sh_RIIIRR, sc_RIIR, sh_RIIR, sc_RRIIR, sh_RRIIR, sc_RRIIIR, sh_RRIIIR, sc_RRIIIIR, sh_RRIIIIR, sc_RRIR, sh_RRIR]
      simp only [orH_k, up_k, ast_k, up_kf, ast_kf, ne_eq, Nat.reduceEqDiff, not_false_eq_true] at m5
      exact Or.inr ⟨e, n, hn, Or.inl ⟨q, m5⟩⟩
  · rw [if_neg q]
    exact ⟨fun _ => Or.inr ⟨e, n, hn, Or.inr ⟨q, rfl⟩⟩, fun e => absurd rfl e⟩
