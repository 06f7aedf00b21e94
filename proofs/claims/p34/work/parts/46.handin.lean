/-! ===== a run handed in ===== -/
def FRun (p c d : Int) (s : sS) : sS := fun k i j =>
  if k = 18 ∧ i = 0 ∧ j = 0 then s 18 0 0 + 1 else if k = 9 ∧ i = 0 ∧ j = 0 then 0
  else if k = 19 ∧ i = s 18 0 0 ∧ j = 0 then p else if k = 22 ∧ i = s 18 0 0 ∧ j = 0 then c
  else if k = 23 ∧ i = s 18 0 0 ∧ j = 0 then d else if k = 24 ∧ i = s 18 0 0 ∧ j = 0 then -3
  else if k = 21 ∧ i = s 18 0 0 ∧ j = 0 then s 9 0 0 else if k = 20 ∧ i = s 18 0 0 then s 10 0 j else s k i j
theorem FRun_k {p c d : Int} {s : sS} {k : Nat} (h : k ≠ 9 ∧ (k < 18 ∨ 24 < k)) : FRun p c d s k = s k := by
  funext i j
  unfold FRun
  rw [if_neg (by omega), if_neg (by omega), if_neg (by omega), if_neg (by omega), if_neg (by omega), if_neg (by omega), if_neg (by omega), if_neg (by omega)]
theorem FRun_o {p c d : Int} {s : sS} {k : Nat} {i j : Int} (h : i ≠ s 18 0 0) (hk : k ≠ 9 ∧ k ≠ 18) : FRun p c d s k i j = s k i j := by
  unfold FRun
  rw [if_neg (by omega), if_neg (by omega), if_neg (by omega), if_neg (by omega), if_neg (by omega), if_neg (by omega), if_neg (by omega), if_neg (by omega)]
theorem FRun_n {p c d : Int} {s : sS} : FRun p c d s 18 0 0 = s 18 0 0 + 1 ∧ FRun p c d s 9 0 0 = 0 ∧ FRun p c d s 19 (s 18 0 0) 0 = p ∧ FRun p c d s 22 (s 18 0 0) 0 = c ∧ FRun p c d s 23 (s 18 0 0) 0 = d ∧ FRun p c d s 24 (s 18 0 0) 0 = -3 ∧ FRun p c d s 21 (s 18 0 0) 0 = s 9 0 0 ∧ ∀ j, FRun p c d s 20 (s 18 0 0) j = s 10 0 j := by
  refine ⟨by simp [FRun], by simp [FRun], by simp [FRun], by simp [FRun], by simp [FRun], by simp [FRun], by simp [FRun], fun j => by simp [FRun]⟩
theorem RC_run {h G : ac_H} {x R K p c d : Int} {ad s : sS} (hR : RC h x ad s) (d0 : 0 ≤ d) (d1 : d < s 11 0 0) (nR : ac_new h R) (nK : ac_new h K) (hne : R ≠ K) (old : ∀ k y z, h 0 y 0 ≠ 0 → G k y z = h k y z)
    (a0 : G 0 R 0 = 27) (a1 : G 800 R 0 = s 18 0 0) (a2 : G 801 R 0 = p) (a3 : G 802 R 0 = c) (a4 : G 803 R 0 = ad 20 d 0) (a5 : G 804 R 0 = K) (a6 : G 805 R 0 = -3) (b0 : G 0 K 0 = 10) (b1 : G 1 K 0 = s 9 0 0) (b2 : ∀ k, 0 ≤ k → k < s 9 0 0 → G 10 K k = s 10 0 k) :
    RC (up (up (up G 17 (ad 7 0 0) (s 18 0 0) R) 909 x 0 (s 18 0 0 + 1)) 905 x 0 0) x (us (us ad 30 (s 18 0 0) 0 R) 31 (s 18 0 0) 0 K) (FRun p c d s) ∧ FR h (up (up (up G 17 (ad 7 0 0) (s 18 0 0) R) 909 x 0 (s 18 0 0 + 1)) 905 x 0 0) ad (us (us ad 30 (s 18 0 0) 0 R) 31 (s 18 0 0) 0 K) := by
  obtain ⟨hi, hf, hs, hd, hpk, hch, hg, hl, hr⟩ := hR
  have n1 : ∀ t i j, ad t i j ≠ R := ad_new hi nR
  have n2 : ∀ t i j, ad t i j ≠ K := ad_new hi nK
  generalize hF : up (up (up G 17 (ad 7 0 0) (s 18 0 0) R) 909 x 0 (s 18 0 0 + 1)) 905 x 0 0 = F
  have F4 : ∀ k y z, k ≠ 17 → k ≠ 909 → k ≠ 905 → F k y z = G k y z := fun k y z h1 h2 h3 => by rw [← hF, up_k h3, up_k h2, up_k h1]
  have hA : Aw h F (fun k => k == 17 || k == 909 || k == 905) := fun k y z hy hk hw => by
    rw [F4 k y z (by rintro rfl; simp at hw) (by rintro rfl; simp at hw) (by rintro rfl; simp at hw), old k y z hy]
  have h10 : ∀ y, h 0 y 0 ≠ 0 → F 10 y = h 10 y := fun y hy => by funext z; rw [F4 10 y z (by decide) (by decide) (by decide), old 10 y z hy]
  obtain ⟨f1, f2, f3, f4, f5, f6, f7, f8, f9, f10, f11, f12, f13, f14, f15, f16, f17, f18, f19, f20, f21, f22, f23, f24, f25, f26, f27, f28, f29⟩ := id hf
  obtain ⟨r18, r9, r19, r22, r23, r24, r21, r20⟩ := FRun_n (p := p) (c := c) (d := d) (s := s)
  refine ⟨⟨⟨us_inj (us_inj hi.1 n1) ?_, ?_⟩, ?_, ?_, ?_, ?_, ?_, ?_, ?_, ?_⟩, ?_, ?_⟩
  · intro t i j; simp only [us]; split
    · exact hne
    · exact n2 t i j
  · intro t i j; simp only [us]; split
    · right; rw [F4 0 _ _ (by decide) (by decide) (by decide), b0]; decide
    · split
      · right; rw [F4 0 _ _ (by decide) (by decide) (by decide), a0]; decide
      · exact (RCi_A hA hi rfl).2 t i j
  · have := RCf_A hA hf ⟨rfl, rfl, rfl, rfl, rfl, rfl, rfl, rfl, rfl, rfl, rfl⟩
    simp only [RCf, us_k, uf_k, ne_eq, Nat.reduceEqDiff, not_false_eq_true] at this ⊢
    exact this
  · obtain ⟨g1, g2, g3, g4, g5, g6, g7⟩ := hs
    unfold RCs
    rw [FRun_k (k := 6) (by omega), FRun_k (k := 7) (by omega), FRun_k (k := 8) (by omega), FRun_k (k := 11) (by omega), FRun_k (k := 0) (by omega), r18, r9]
    simp only [us_k, uf_k, ne_eq, Nat.reduceEqDiff, not_false_eq_true]
    refine ⟨?_, ?_, ?_, by rw [← hF, up_self], ?_, by rw [← hF, up_k (by decide), up_self], ?_⟩
    all_goals (rw [hA _ _ _ (by omega) (by decide) (by rfl)]; assumption)
  · intro j j0 j1
    rw [r9] at j1
    omega
  · have := RCp_A hA hf hpk ⟨rfl, rfl, rfl, rfl, rfl, rfl⟩
    simp only [RCp, us_k, uf_k, ne_eq, Nat.reduceEqDiff, not_false_eq_true, FRun_k (p := p) (c := c) (d := d) (s := s) (k := 0) (by omega), FRun_k (p := p) (c := c) (d := d) (s := s) (k := 1) (by omega), FRun_k (p := p) (c := c) (d := d) (s := s) (k := 5) (by omega)] at this ⊢
    exact this
  · have := RCc_A hA hpk hch ⟨rfl, rfl, rfl, rfl, rfl⟩
    simp only [RCc, us_k, uf_k, ne_eq, Nat.reduceEqDiff, not_false_eq_true, FRun_k (p := p) (c := c) (d := d) (s := s) (k := 0) (by omega), FRun_k (p := p) (c := c) (d := d) (s := s) (k := 1) (by omega), FRun_k (p := p) (c := c) (d := d) (s := s) (k := 2) (by omega), FRun_k (p := p) (c := c) (d := d) (s := s) (k := 3) (by omega), FRun_k (p := p) (c := c) (d := d) (s := s) (k := 4) (by omega)] at this ⊢
    exact this
  · have := RCg_A hA hf hg (fun d d0 d1 => h10 _ (by have := (hg d d0 d1).2.2.2.2.2.2.2.1; omega)) ⟨rfl, rfl, rfl, rfl, rfl, rfl, rfl⟩
    simp only [RCg, us_k, uf_k, ne_eq, Nat.reduceEqDiff, not_false_eq_true, FRun_k (p := p) (c := c) (d := d) (s := s) (k := 11) (by omega), FRun_k (p := p) (c := c) (d := d) (s := s) (k := 12) (by omega), FRun_k (p := p) (c := c) (d := d) (s := s) (k := 13) (by omega)] at this ⊢
    exact this
  · have := RCl_A hA hg hl (fun d f d0 d1 f0 f1 => by
      obtain ⟨l1, l2, l3, l4, l5, l6, l7, l8, l9, l10, l11, l12, l13, l14, l15, -⟩ := hl d f d0 d1 f0 f1
      exact ⟨h10 _ (by omega), h10 _ (by omega), h10 _ (by omega)⟩) ⟨rfl, rfl, rfl, rfl, rfl, rfl, rfl, rfl, rfl, rfl⟩
    simp only [RCl, entS, us_k, uf_k, ne_eq, Nat.reduceEqDiff, not_false_eq_true, FRun_k (p := p) (c := c) (d := d) (s := s) (k := 11) (by omega), FRun_k (p := p) (c := c) (d := d) (s := s) (k := 14) (by omega), FRun_k (p := p) (c := c) (d := d) (s := s) (k := 15) (by omega), FRun_k (p := p) (c := c) (d := d) (s := s) (k := 16) (by omega), FRun_k (p := p) (c := c) (d := d) (s := s) (k := 17) (by omega)] at this ⊢
    exact this
  · intro r r0 r1
    rw [r18] at r1
    have e17 : F 17 (ad 7 0 0) r = if r = s 18 0 0 then R else h 17 (ad 7 0 0) r := by
      rw [← hF, up_k (by decide), up_k (by decide)]
      by_cases q : r = s 18 0 0
      · rw [q, up_self, if_pos rfl]
      · rw [up_j q, if_neg q, old 17 _ _ (by omega)]
    simp only [us_k, uf_k, ne_eq, Nat.reduceEqDiff, not_false_eq_true]
    by_cases q : r = s 18 0 0
    · subst q
      rw [e17, if_pos rfl, us_s, us_s, r19, r22, r23, r24, r21]
      have FR0 : ∀ k y z, (k = 0 ∨ k = 1 ∨ k = 10 ∨ (800 ≤ k ∧ k ≤ 805)) → F k y z = G k y z := fun k y z hk => F4 k y z (by omega) (by omega) (by omega)
      rw [FR0 0 _ _ (by omega), FR0 800 _ _ (by omega), FR0 801 _ _ (by omega), FR0 802 _ _ (by omega), FR0 803 _ _ (by omega), FR0 804 _ _ (by omega), FR0 805 _ _ (by omega), FR0 0 _ _ (by omega), FR0 1 _ _ (by omega)]
      refine ⟨nR.1, rfl, a0, a1, a2, a3, a4, a5, a6, b0, b1, fun k k0 k1 => ?_⟩
      rw [FR0 10 _ _ (by omega), r20]
      exact b2 k k0 k1
    · obtain ⟨c1, c2, c3, c4, c5, c6, c7, c8, c9, c10, c11, c12⟩ := hr r r0 (by omega)
      rw [e17, if_neg q, us_n (fun q2 => q q2.1), us_n (fun q2 => q q2.1)]
      simp only [us_k, uf_k, ne_eq, Nat.reduceEqDiff, not_false_eq_true]
      rw [FRun_o q (by omega), FRun_o q (by omega), FRun_o q (by omega), FRun_o q (by omega), FRun_o q (by omega)]
      refine ⟨c1, c2, ?_, ?_, ?_, ?_, ?_, ?_, ?_, ?_, ?_, fun k k0 k1 => ?_⟩
      rotate_left 9
      · rw [FRun_o q (by omega), h10 _ (by omega)]; exact c12 k k0 k1
      all_goals (rw [hA _ _ _ (by omega) (by decide) (by rfl)]; assumption)
  · intro k y z hy hn
    rw [← hF]
    have y1 := hn 0 0 0
    rw [f1] at y1
    rw [up_a (Ne.symm y1), up_a (Ne.symm y1), up_a (Ne.symm (hn 7 0 0)), old k y z hy]
  · intro t i j
    simp only [us]
    split
    · right; exact nK.2 0 0
    · split
      · right; exact nR.2 0 0
      · left; rfl
theorem FDR_k {s : sS} {k : Nat} (h : k < 11 ∨ 17 < k) : FDR s k = s k := by
  unfold FDR
  split
  · exact FDun_k h
  · rfl
theorem drD_r {s : sS} (hS : SI s) (h : drD s ≠ -1) : 0 ≤ drD s ∧ drD s < FDR s 11 0 0 := by
  have n0 := hS.2.2.2.2.2.2.2.2.1.1
  by_cases c : tdO s ∧ tdD s = -1 ∧ s 11 0 0 < 20
  · obtain ⟨e1, e2⟩ := FDR_y c
    rw [e1, e2, FDun_11]; omega
  · obtain ⟨e1, e2⟩ := FDR_n c
    rw [e2] at h
    rw [e1, e2]
    by_cases c2 : tdO s
    · rw [if_pos c2] at h ⊢
      exact (tdD_r s).resolve_left h
    · rw [if_neg c2] at h; exact absurd rfl h
theorem FDR_no {s : sS} (hS : SI s) (h : drD s = -1) : FDR s = s := by
  have n0 := hS.2.2.2.2.2.2.2.2.1.1
  by_cases c : tdO s ∧ tdD s = -1 ∧ s 11 0 0 < 20
  · have := (FDR_y c).2; omega
  · exact (FDR_n c).1
def cdHand (p c : Int) (s : sS) : Int := if 0 ≤ p ∧ p < 8 then (if -100 ≤ c ∧ c ≤ 1000 then (if s 18 0 0 < 60 ∧ drD s ≠ -1 then 0 else 3) else 2) else 1
noncomputable def FHand (p c : Int) (s : sS) : sS := FRun p c (drD s) (FDR s)
def spX8_handIn : ac_Sp := sc_RII (fun x p c h => CW h x) (fun x p c h v h' => OKc x h h' v (cdHand p c) (fun s => s 18 0 0) (FHand p c)) (fun x p c h E h' => EXc x h h' E (cdHand p c) (n3 "java/lang/IndexOutOfBoundsException" "java/lang/IllegalArgumentException" "java/lang/IllegalStateException"))
set_option maxRecDepth 100000 in
set_option maxHeartbeats 4000000 in
theorem mtX8_handIn {G : ac_G} {l : Launch} : ac_Met G l yX8_handIn mX8_handIn 7 144 28 395 spX8_handIn := by
  refine ac_meth1 (pcs := pcX8_handIn) (B := fun P X J j => vcX8_handIn spX8_requirePlayer spX8_dungeonForRun spJ7_copyOf_59c91 spX7_init P X J j) (by decide) rfl rfl rfl (fun P X J hJ j => sdX8_handIn mtX8_requirePlayer mtX8_dungeonForRun mtJ7_copyOf_59c91 mtX7_init hvX7_init P X J hJ j) (hp_RII (by decide)) fun As h hp => ?_
  obtain ⟨x, p, c, rfl, hp⟩ := sh_RII_inv hp
  simp only [spX8_handIn, vcX8_handIn, mX8_handIn, spX8_requirePlayer, spX8_dungeonForRun, spJ7_copyOf_59c91, spX7_init, sc_RII, sh_RII, ac_ent, ldI, ldR, stI, stR, inc, cI, cJ, cN, bop, oAdd, oSub, oMul, oAnd, oOr, oXor, oShl, oShr, oUshr, oRem, oDiv, oMx, oMn, oI2l, oLcmp, oDup, oDup2, oDupX1, oPop, bIc, bI0, bNul, getI, getR, putI, putZ, putR, aLen, aldI, aldZ, aldJ, aldR, astI, astZ, astJ, astR, nwO, nwA, gsT, oObj, oCpy, oCln, oCst, rtI, rtZ, rtR, rtV, thr, call, callH, ac_hsel, ac_as, ac_rs, ac_cs, ac_rcv, List.map_cons, List.map_nil, List.length_cons, List.length_nil, List.replicate, List.append_nil, List.cons_append, List.nil_append, List.getElem?_cons_zero, List.getElem?_cons_succ, List.set, Nat.zero_add, Nat.add_zero, Nat.le_refl, Nat.reduceAdd, Nat.reduceSub, Nat.reduceLeDiff, Int.reduceLT, Int.reduceLE, Int.reduceNeg, Int.reduceEq, true_and, and_true, true_or, or_true, not_true_eq_false, not_false_eq_true, false_implies, true_implies, implies_true, reduceIte, and_self, Int.reduceAdd, Int.reduceMul, Int.reduceSub, eq_self, Int.add_zero, Int.zero_add, String.reduceEq, Nat.zero_le, Option.some.injEq, Sum.inl.injEq, Sum.inr.injEq, reduceCtorEq, Int.reduceToNat, Option.toList_some, Option.toList_none, ac_cs, ac_c10, ac_c11, ac_c12, ac_c13, ac_c14, ac_c15, ac_c16, ac_c17, sc_E, sh_E, sc_I, sh_I, sc_II, sh_II, sc_III, sh_III, sc_R, sh_R, sc_RI, sh_RI, sc_RII, sh_RII, sc_RIII, sh_RIII, sc_RIIII, sh_RIIII, sc_RR, sh_RR, sc_RRI, sh_RRI, sc_RRR, sh_RRR, sc_RIR, sh_RIR, sc_RIRI, sh_RIRI, sc_RRII, sh_RRII, sc_RRIII, sh_RRIII, sc_RIIRR, sh_RIIRR, sc_RIIIRR, sh_RIIIRR, sc_RIIR, sh_RIIR, sc_RRIIR, sh_RRIIR, sc_RRIIIR, sh_RRIIIR, sc_RRIIIIR, sh_RRIIIIR, sc_RRIR, sh_RRIR]
  have hC : CW h x := hp
  obtain ⟨ad, s, hR, hS⟩ := hp
  have h1 : h 0 x 0 = 28 := hR.2.1.2.2.1
  have bad : ∀ z, (∀ ad s, RC h x ad s → SI s → cdHand p c s = z) → z ≠ 0 → ∀ E, E = n3 "java/lang/IndexOutOfBoundsException" "java/lang/IllegalArgumentException" "java/lang/IllegalStateException" z → EXc x h h E (cdHand p c) (n3 "java/lang/IndexOutOfBoundsException" "java/lang/IllegalArgumentException" "java/lang/IllegalStateException") := by
    intro z hz z0 E hE ad s hR hS
    rw [hz ad s hR hS]
    exact ⟨z0, hE, okS_rf hR⟩
  refine ⟨?_, ?_⟩
  · rintro v g ⟨rfl, rfl, p0, p1⟩
    simp only [h1, hC, ac_ent, ldI, ldR, stI, stR, inc, cI, cJ, cN, bop, oAdd, oSub, oMul, oAnd, oOr, oXor, oShl, oShr, oUshr, oRem, oDiv, oMx, oMn, oI2l, oLcmp, oDup, oDup2, oDupX1, oPop, bIc, bI0, bNul, getI, getR, putI, putZ, putR, aLen, aldI, aldZ, aldJ, aldR, astI, astZ, astJ, astR, nwO, nwA, gsT, oObj, oCpy, oCln, oCst, rtI, rtZ, rtR, rtV, thr, call, callH, ac_hsel, ac_as, ac_rs, ac_cs, ac_rcv, List.map_cons, List.map_nil, List.length_cons, List.length_nil, List.replicate, List.append_nil, List.cons_append, List.nil_append, List.getElem?_cons_zero, List.getElem?_cons_succ, List.set, Nat.zero_add, Nat.add_zero, Nat.le_refl, Nat.reduceAdd, Nat.reduceSub, Nat.reduceLeDiff, Int.reduceLT, Int.reduceLE, Int.reduceNeg, Int.reduceEq, true_and, and_true, true_or, or_true, not_true_eq_false, not_false_eq_true, false_implies, true_implies, implies_true, reduceIte, and_self, Int.reduceAdd, Int.reduceMul, Int.reduceSub, eq_self, Int.add_zero, Int.zero_add, String.reduceEq, Nat.zero_le, Option.some.injEq, Sum.inl.injEq, Sum.inr.injEq, reduceCtorEq, Int.reduceToNat, Option.toList_some, Option.toList_none, ac_cs, ac_c10, ac_c11, ac_c12, ac_c13, ac_c14, ac_c15, ac_c16, ac_c17, sc_E, sh_E, sc_I, sh_I, sc_II, sh_II, sc_III, sh_III, sc_R, sh_R, sc_RI, sh_RI, sc_RII, sh_RII, sc_RIII, sh_RIII, sc_RIIII, sh_RIIII, sc_RR, sh_RR, sc_RRI, sh_RRI, sc_RRR, sh_RRR, sc_RIR, sh_RIR, sc_RIRI, sh_RIRI, sc_RRII, sh_RRII, sc_RRIII, sh_RRIII, sc_RIIRR, sh_RIIRR, sc_RIIIRR, sh_RIIIRR, sc_RIIR, sh_RIIR, sc_RRIIR, sh_RRIIR, sc_RRIIIR, sh_RRIIIR, sc_RRIIIIR, sh_RRIIIIR, sc_RRIR, sh_RRIR]
    refine ⟨fun q => bad 2 (fun ad s hR hS => by rw [cdHand, if_pos ⟨p0, p1⟩, if_neg (by omega)]) (by decide) _ rfl, fun q => ⟨fun q2 => ⟨fun q3 => ?_, fun q3 => ?_⟩, fun q2 => bad 2 (fun ad s hR hS => by rw [cdHand, if_pos ⟨p0, p1⟩, if_neg (by omega)]) (by decide) _ rfl⟩⟩
    · rintro v g1 hv
      obtain ⟨W, eW, hw, hkd⟩ : ∃ W : Int, v = some (.inr (.inl W)) ∧ (∀ ad s, RC g x ad s → SI s → ∃ ad', RC g1 x ad' (FDR s) ∧ FR g g1 ad ad' ∧ W = if drD s = -1 then 0 else ad' 20 (drD s) 0) ∧ ∀ y, g 0 y 0 ≠ 0 → g1 0 y 0 ≠ 0 := by
        obtain ⟨ad1, hR1, hF1, hk1, e⟩ := hv ad s hR hS
        refine ⟨_, e, fun ad s hR hS => ?_, hk1⟩
        obtain ⟨ad2, hR2, hF2, hk2, e2⟩ := hv ad s hR hS
        rw [e] at e2
        exact ⟨ad2, hR2, hF2, by simpa using e2⟩
      clear hv
      subst eW
      have fld : ∀ ad s, RC g x ad s → SI s → g1 909 x 0 = s 18 0 0 ∧ g1 905 x 0 = s 9 0 0 := fun ad s hR hS => by
        obtain ⟨ad1, hR1, hF1, e⟩ := hw ad s hR hS
        obtain ⟨z6, z7, z8, z9, z11, z18⟩ := RC_90 hR1
        rw [FDR_k (by omega)] at z9
        rw [FDR_k (by omega)] at z18
        exact ⟨z18, z9⟩
      obtain ⟨ad1, hR1, hF1, e⟩ := hw ad s hR hS
      obtain ⟨y1, y2⟩ := fld ad s hR hS
      have z18 := (RC_90 hR).2.2.2.2.2
      have s9 := hS.2.2.2.2.2.2.1
      have s18 := hS.2.2.2.2.2.2.2.2.2.2.2.1
      obtain ⟨f1, f2, f3, f4, f5, f6, f7, f8, f9, f10, f11, f12, f13, f14, f15, f16, f17, f18, f19, f20, f21, f22, f23, f24, f25, -⟩ := hR1.2.1
      have k1 : g1 0 (g1 904 x 0) 0 = 10 := by rw [f5]; exact f20
      have k2 : g1 1 (g1 904 x 0) 0 = 60 := by rw [f5]; exact f21
      have k3 : g1 0 (g1 908 x 0) 0 = 17 := by rw [f7]; exact f24
      have k4 : g1 1 (g1 908 x 0) 0 = 60 := by rw [f7]; exact f25
      simp only [ac_ent, ldI, ldR, stI, stR, inc, cI, cJ, cN, bop, oAdd, oSub, oMul, oAnd, oOr, oXor, oShl, oShr, oUshr, oRem, oDiv, oMx, oMn, oI2l, oLcmp, oDup, oDup2, oDupX1, oPop, bIc, bI0, bNul, getI, getR, putI, putZ, putR, aLen, aldI, aldZ, aldJ, aldR, astI, astZ, astJ, astR, nwO, nwA, gsT, oObj, oCpy, oCln, oCst, rtI, rtZ, rtR, rtV, thr, call, callH, ac_hsel, ac_as, ac_rs, ac_cs, ac_rcv, List.map_cons, List.map_nil, List.length_cons, List.length_nil, List.replicate, List.append_nil, List.cons_append, List.nil_append, List.getElem?_cons_zero, List.getElem?_cons_succ, List.set, Nat.zero_add, Nat.add_zero, Nat.le_refl, Nat.reduceAdd, Nat.reduceSub, Nat.reduceLeDiff, Int.reduceLT, Int.reduceLE, Int.reduceNeg, Int.reduceEq, true_and, and_true, true_or, or_true, not_true_eq_false, not_false_eq_true, false_implies, true_implies, implies_true, reduceIte, and_self, Int.reduceAdd, Int.reduceMul, Int.reduceSub, eq_self, Int.add_zero, Int.zero_add, String.reduceEq, Nat.zero_le, Option.some.injEq, Sum.inl.injEq, Sum.inr.injEq, reduceCtorEq, Int.reduceToNat, Option.toList_some, Option.toList_none, ac_cs, ac_c10, ac_c11, ac_c12, ac_c13, ac_c14, ac_c15, ac_c16, ac_c17, sc_E, sh_E, sc_I, sh_I, sc_II, sh_II, sc_III, sh_III, sc_R, sh_R, sc_RI, sh_RI, sc_RII, sh_RII, sc_RIII, sh_RIII, sc_RIIII, sh_RIIII, sc_RR, sh_RR, sc_RRI, sh_RRI, sc_RRR, sh_RRR, sc_RIR, sh_RIR, sc_RIRI, sh_RIRI, sc_RRII, sh_RRII, sc_RRIII, sh_RRIII, sc_RIIRR, sh_RIIRR, sc_RIIIRR, sh_RIIIRR, sc_RIIR, sh_RIIR, sc_RRIIR, sh_RRIIR, sc_RRIIIR, sh_RRIIIR, sc_RRIIIIR, sh_RRIIIIR, sc_RRIR, sh_RRIR]
      refine ⟨fun w0 => ?_, fun w0 => ?_⟩
      · intro ad s hR hS
        obtain ⟨ad1, hR1, hF1, e⟩ := hw ad s hR hS
        have dn : drD s = -1 := by
          by_cases q4 : drD s = -1
          · exact q4
          · rw [if_neg q4] at e
            obtain ⟨u1, u2⟩ := drD_r hS q4
            have := (hR1.2.2.2.2.2.2.1 _ u1 u2).1
            omega
        have z18 := (RC_90 hR).2.2.2.2.2
        have cd : cdHand p c s = 3 := by rw [cdHand, if_pos ⟨p0, p1⟩, if_pos (by omega), if_neg (by omega)]
        rw [cd]
        rw [FDR_no hS dn] at hR1
        exact ⟨by decide, rfl, ad1, hR1, hF1⟩
      · intro R nR
        have e1 : x ≠ R := new_ne nR (by rw [f3]; decide)
        have e2 : g1 904 x 0 ≠ R := new_ne nR (by rw [k1]; decide)
        have e3 : g1 908 x 0 ≠ R := new_ne nR (by rw [k3]; decide)
        simp only [up_k, ast_k, up_kf, ast_kf, ne_eq, Nat.reduceEqDiff, not_false_eq_true, up_a e1, up_a e2, f3, k1, k2, y2, Int.not_lt.mpr s9.1, s9.1, s9.2, ac_ent, ldI, ldR, stI, stR, inc, cI, cJ, cN, bop, oAdd, oSub, oMul, oAnd, oOr, oXor, oShl, oShr, oUshr, oRem, oDiv, oMx, oMn, oI2l, oLcmp, oDup, oDup2, oDupX1, oPop, bIc, bI0, bNul, getI, getR, putI, putZ, putR, aLen, aldI, aldZ, aldJ, aldR, astI, astZ, astJ, astR, nwO, nwA, gsT, oObj, oCpy, oCln, oCst, rtI, rtZ, rtR, rtV, thr, call, callH, ac_hsel, ac_as, ac_rs, ac_cs, ac_rcv, List.map_cons, List.map_nil, List.length_cons, List.length_nil, List.replicate, List.append_nil, List.cons_append, List.nil_append, List.getElem?_cons_zero, List.getElem?_cons_succ, List.set, Nat.zero_add, Nat.add_zero, Nat.le_refl, Nat.reduceAdd, Nat.reduceSub, Nat.reduceLeDiff, Int.reduceLT, Int.reduceLE, Int.reduceNeg, Int.reduceEq, true_and, and_true, true_or, or_true, not_true_eq_false, not_false_eq_true, false_implies, true_implies, implies_true, reduceIte, and_self, Int.reduceAdd, Int.reduceMul, Int.reduceSub, eq_self, Int.add_zero, Int.zero_add, String.reduceEq, Nat.zero_le, Option.some.injEq, Sum.inl.injEq, Sum.inr.injEq, reduceCtorEq, Int.reduceToNat, Option.toList_some, Option.toList_none, ac_cs, ac_c10, ac_c11, ac_c12, ac_c13, ac_c14, ac_c15, ac_c16, ac_c17, sc_E, sh_E, sc_I, sh_I, sc_II, sh_II, sc_III, sh_III, sc_R, sh_R, sc_RI, sh_RI, sc_RII, sh_RII, sc_RIII, sh_RIII, sc_RIIII, sh_RIIII, sc_RR, sh_RR, sc_RRI, sh_RRI, sc_RRR, sh_RRR, sc_RIR, sh_RIR, sc_RIRI, sh_RIRI, sc_RRII, sh_RRII, sc_RRIII, sh_RRIII, sc_RIIRR, sh_RIIRR, sc_RIIIRR, sh_RIIIRR, sc_RIIR, sh_RIIR, sc_RRIIR, sh_RRIIR, sc_RRIIIR, sh_RRIIIR, sc_RRIIIIR, sh_RRIIIIR, sc_RRIR, sh_RRIR]
        rintro v g2 ⟨K, nK, rfl, b0, b1, b2, old⟩
        obtain ⟨eKR, nK1⟩ := new_up nK (by decide)
        have eRK : R ≠ K := fun q => eKR q.symm
        have g2R : g2 0 R 0 = 27 := by rw [old 0 R 0 eRK, up_self]
        have old2 : ∀ k y z, g1 0 y 0 ≠ 0 → g2 k y z = g1 k y z := fun k y z hy => by
          rw [old k y z (new_ne nK1 hy), up_a (new_ne nR hy)]
        simp only [nR.1, g2R, ac_ent, ldI, ldR, stI, stR, inc, cI, cJ, cN, bop, oAdd, oSub, oMul, oAnd, oOr, oXor, oShl, oShr, oUshr, oRem, oDiv, oMx, oMn, oI2l, oLcmp, oDup, oDup2, oDupX1, oPop, bIc, bI0, bNul, getI, getR, putI, putZ, putR, aLen, aldI, aldZ, aldJ, aldR, astI, astZ, astJ, astR, nwO, nwA, gsT, oObj, oCpy, oCln, oCst, rtI, rtZ, rtR, rtV, thr, call, callH, ac_hsel, ac_as, ac_rs, ac_cs, ac_rcv, List.map_cons, List.map_nil, List.length_cons, List.length_nil, List.replicate, List.append_nil, List.cons_append, List.nil_append, List.getElem?_cons_zero, List.getElem?_cons_succ, List.set, Nat.zero_add, Nat.add_zero, Nat.le_refl, Nat.reduceAdd, Nat.reduceSub, Nat.reduceLeDiff, Int.reduceLT, Int.reduceLE, Int.reduceNeg, Int.reduceEq, true_and, and_true, true_or, or_true, not_true_eq_false, not_false_eq_true, false_implies, true_implies, implies_true, reduceIte, and_self, Int.reduceAdd, Int.reduceMul, Int.reduceSub, eq_self, Int.add_zero, Int.zero_add, String.reduceEq, Nat.zero_le, Option.some.injEq, Sum.inl.injEq, Sum.inr.injEq, reduceCtorEq, Int.reduceToNat, Option.toList_some, Option.toList_none, ac_cs, ac_c10, ac_c11, ac_c12, ac_c13, ac_c14, ac_c15, ac_c16, ac_c17, sc_E, sh_E, sc_I, sh_I, sc_II, sh_II, sc_III, sh_III, sc_R, sh_R, sc_RI, sh_RI, sc_RII, sh_RII, sc_RIII, sh_RIII, sc_RIIII, sh_RIIII, sc_RR, sh_RR, sc_RRI, sh_RRI, sc_RRR, sh_RRR, sc_RIR, sh_RIR, sc_RIRI, sh_RIRI, sc_RRII, sh_RRII, sc_RRIII, sh_RRIII, sc_RIIRR, sh_RIIRR, sc_RIIIRR, sh_RIIIRR, sc_RIIR, sh_RIIR, sc_RRIIR, sh_RRIIR, sc_RRIIIR, sh_RRIIIR, sc_RRIIIIR, sh_RRIIIIR, sc_RRIR, sh_RRIR]
        rintro v g3 ⟨rfl, hg3⟩
        have old3 : ∀ k y z, g1 0 y 0 ≠ 0 → g3 k y z = g1 k y z := fun k y z hy => by
          have := new_ne nR hy
          rw [hg3, up_a this, up_a this, up_a this, up_a this, up_a this, up_a this, old2 k y z hy]
        have r0 : g3 0 R 0 = 27 := by rw [hg3]; simp only [up_k, ast_k, up_kf, ast_kf, ne_eq, Nat.reduceEqDiff, not_false_eq_true]; exact g2R
        have r1 : g3 800 R 0 = g1 909 x 0 := by rw [hg3, up_k (by decide), up_k (by decide), up_k (by decide), up_k (by decide), up_self]
        have r2 : g3 801 R 0 = p := by rw [hg3, up_k (by decide), up_k (by decide), up_k (by decide), up_self]
        have r3 : g3 802 R 0 = c := by rw [hg3, up_k (by decide), up_k (by decide), up_self]
        have r4 : g3 803 R 0 = W := by rw [hg3, up_k (by decide), up_self]
        have r5 : g3 804 R 0 = K := by rw [hg3, up_self]
        have r6 : g3 805 R 0 = -3 := by rw [hg3, up_k (by decide), up_k (by decide), up_k (by decide), up_k (by decide), up_k (by decide), up_self]
        have t0 : g3 0 K 0 = 10 := by rw [hg3]; simp only [up_k, ast_k, up_kf, ast_kf, ne_eq, Nat.reduceEqDiff, not_false_eq_true]; exact b0
        have t1 : g3 1 K 0 = s 9 0 0 := by rw [hg3]; simp only [up_k, ast_k, up_kf, ast_kf, ne_eq, Nat.reduceEqDiff, not_false_eq_true]; exact b1
        have t2 : ∀ k, 0 ≤ k → k < s 9 0 0 → g3 10 K k = g1 10 (g1 904 x 0) k := fun k k0 k1 => by rw [hg3]; simp only [up_k, ast_k, up_kf, ast_kf, ne_eq, Nat.reduceEqDiff, not_false_eq_true]; rw [b2 k k0 k1]
        have x0 : g3 0 x 0 = 28 := by rw [old3 0 x 0 (by omega), f3]
        have x8 : g3 908 x 0 = g1 908 x 0 := old3 908 x 0 (by omega)
        have x9 : g3 909 x 0 = g1 909 x 0 := old3 909 x 0 (by omega)
        have xk : g3 0 (g1 908 x 0) 0 = 17 := by rw [old3 0 _ 0 (by omega), k3]
        have xl : g3 1 (g1 908 x 0) 0 = 60 := by rw [old3 1 _ 0 (by omega), k4]
        clear hg3
        simp only [x0, x8, x9, xk, xl, r0, r1, up_k, ast_k, up_kf, ast_kf, ne_eq, Nat.reduceEqDiff, not_false_eq_true, ac_ent, ldI, ldR, stI, stR, inc, cI, cJ, cN, bop, oAdd, oSub, oMul, oAnd, oOr, oXor, oShl, oShr, oUshr, oRem, oDiv, oMx, oMn, oI2l, oLcmp, oDup, oDup2, oDupX1, oPop, bIc, bI0, bNul, getI, getR, putI, putZ, putR, aLen, aldI, aldZ, aldJ, aldR, astI, astZ, astJ, astR, nwO, nwA, gsT, oObj, oCpy, oCln, oCst, rtI, rtZ, rtR, rtV, thr, call, callH, ac_hsel, ac_as, ac_rs, ac_cs, ac_rcv, List.map_cons, List.map_nil, List.length_cons, List.length_nil, List.replicate, List.append_nil, List.cons_append, List.nil_append, List.getElem?_cons_zero, List.getElem?_cons_succ, List.set, Nat.zero_add, Nat.add_zero, Nat.le_refl, Nat.reduceAdd, Nat.reduceSub, Nat.reduceLeDiff, Int.reduceLT, Int.reduceLE, Int.reduceNeg, Int.reduceEq, true_and, and_true, true_or, or_true, not_true_eq_false, not_false_eq_true, false_implies, true_implies, implies_true, reduceIte, and_self, Int.reduceAdd, Int.reduceMul, Int.reduceSub, eq_self, Int.add_zero, Int.zero_add, String.reduceEq, Nat.zero_le, Option.some.injEq, Sum.inl.injEq, Sum.inr.injEq, reduceCtorEq, Int.reduceToNat, Option.toList_some, Option.toList_none, ac_cs, ac_c10, ac_c11, ac_c12, ac_c13, ac_c14, ac_c15, ac_c16, ac_c17, sc_E, sh_E, sc_I, sh_I, sc_II, sh_II, sc_III, sh_III, sc_R, sh_R, sc_RI, sh_RI, sc_RII, sh_RII, sc_RIII, sh_RIII, sc_RIIII, sh_RIIII, sc_RR, sh_RR, sc_RRI, sh_RRI, sc_RRR, sh_RRR, sc_RIR, sh_RIR, sc_RIRI, sh_RIRI, sc_RRII, sh_RRII, sc_RRIII, sh_RRIII, sc_RIIRR, sh_RIIRR, sc_RIIIRR, sh_RIIIRR, sc_RIIR, sh_RIIR, sc_RRIIR, sh_RRIIR, sc_RRIIIR, sh_RRIIIR, sc_RRIIIIR, sh_RRIIIIR, sc_RRIR, sh_RRIR]
        rw [wr_of (by omega) (by omega)]
        refine ⟨⟨by omega, by omega⟩, fun ad s' hR hS' => ?_⟩
        obtain ⟨ad1, hR1, hF1, e⟩ := hw ad s' hR hS'
        obtain ⟨y1', y2'⟩ := fld ad s' hR hS'
        have z18' := (RC_90 hR).2.2.2.2.2
        have dn : drD s' ≠ -1 := fun q4 => by rw [if_pos q4] at e; exact w0 e
        rw [if_neg dn] at e
        have dr := drD_r hS' dn
        obtain ⟨f1, f2, f3, f4, f5, f6, f7, -⟩ := hR1.2.1
        refine ⟨by rw [cdHand, if_pos ⟨p0, p1⟩, if_pos (by omega), if_pos ⟨by omega, dn⟩], by rw [y1'], ?_⟩
        have k18 : FDR s' 18 0 0 = s' 18 0 0 := by rw [FDR_k (by omega)]
        have k9 : FDR s' 9 0 0 = s' 9 0 0 := by rw [FDR_k (by omega)]
        have fin := RC_run hR1 dr.1 dr.2 nR nK1 eRK old3 r0 (by rw [r1, y1', k18]) r2 r3 (by rw [r4, e]) r5 r6 t0 (by rw [t1, k9, ← y2, y2']) (fun k k0 k1 => by
          rw [k9, ← y2', y2] at k1
          rw [t2 k k0 k1, f5]
          exact hR1.2.2.2.1 k k0 (by rw [k9, ← y2', y2]; exact k1))
        rw [y1', f7]
        rw [k18] at fin
        exact ⟨_, fin.1, FR_tr hF1 fin.2 hkd⟩
    · exact bad 3 (fun ad s hR hS => by
        have := (RC_90 hR).2.2.2.2.2
        rw [cdHand, if_pos ⟨p0, p1⟩, if_pos (by omega), if_neg (by omega)]) (by decide) _ rfl
  · rintro E g ⟨rfl, rfl, q⟩
    exact bad 1 (fun ad s hR hS => by rw [cdHand, if_neg q]) (by decide) _ rfl
