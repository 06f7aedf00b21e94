/-! ===== the model: runs played, judged ===== -/
def RG (q : Nat → Int) : Prop := (0 ≤ q 1 ∧ q 1 < 16) ∧ (0 ≤ q 0 ∧ q 0 ≤ 3) ∧ (q 4 = 0 → q 0 < 3)
theorem mcm_e (s : sS) (a : Int) (q : Nat → Int) : mcm s a q 0 = q 0 ∧ mcm s a q 1 = q 1 ∧ (mcm s a q 4 = q 4 ∨ mcm s a q 4 = 1) := by
  unfold mcm
  repeat' split
  all_goals (unfold mc1; simp [upq])
theorem mtk_rg {s : sS} {d key : Int} {q : Nat → Int} (hD : ∀ f, 0 ≤ f → f < 3 → DOK (s 14 (3 * d + f))) (k0 : 0 ≤ key) (k1 : key < 6) (h : RG q) : RG (mtk s d q key).2 := by
  obtain ⟨h1, h2, h3⟩ := h
  by_cases c : q 4 ≠ 0 ∨ (key = 4 ∧ q 1 ≠ s 17 (3 * d + q 0) 0) ∨ (key < 4 ∧ bt (s 14 (3 * d + q 0) (q 1)) key = 0)
  · rw [mtk_no c]; exact ⟨h1, h2, h3⟩
  have e0 : q 4 = 0 := by omega
  have f3 := h3 e0
  by_cases k : key < 4
  · have hb : ¬ bt (s 14 (3 * d + q 0) (q 1)) key = 0 := fun w => c (Or.inr (Or.inr ⟨k, w⟩))
    rw [mtk_go e0 k hb]
    have nn := hD (q 0) h2.1 f3 (q 1) key h1.1 h1.2 k0 k hb
    have nr := (nb_r (d := key) h1.1 h1.2).resolve_left nn
    obtain ⟨a0, a1, a4⟩ := mcm_e s (3 * d + q 0) (upq q 1 (nb (q 1) key))
    have b0 : upq q 1 (nb (q 1) key) 0 = q 0 := upq_n (by decide)
    have b1 : upq q 1 (nb (q 1) key) 1 = nb (q 1) key := upq_s
    have b4 : upq q 1 (nb (q 1) key) 4 = q 4 := upq_n (by decide)
    unfold RG
    dsimp only
    rw [a0, a1, b0, b1]
    exact ⟨nr, h2, fun _ => f3⟩
  · by_cases k4 : key = 4
    · subst k4
      have er : q 1 = s 17 (3 * d + q 0) 0 := by
        by_cases w : q 1 = s 17 (3 * d + q 0) 0
        · exact w
        · exact absurd (Or.inr (Or.inl ⟨rfl, w⟩)) c
      rw [mtk_dn e0 er]
      obtain ⟨m0, m1, m2, m3, m4, m5, m6⟩ := mdn_e q
      unfold RG
      dsimp only
      rw [m0, m1, m4]
      refine ⟨h1, by omega, fun w => ?_⟩
      by_cases z : q 0 + 1 = 3
      · rw [if_pos z] at w; exact absurd w (by decide)
      · omega
    · have k5 : key = 5 := by omega
      subst k5
      rw [mtk_rs e0]
      unfold RG mrs
      simp only [upq, Nat.reduceEqDiff, reduceIte]
      exact ⟨h1, h2, h3⟩
theorem m00_rg (s : sS) (d : Int) : RG (m00 s d) := by unfold RG m00; simp
theorem mpl_rg {s : sS} {r : Int} {len : Nat} (hD : ∀ f, 0 ≤ f → f < 3 → DOK (s 14 (3 * s 23 r 0 + f))) (hk : ∀ k : Nat, k < len → 0 ≤ s 20 r k ∧ s 20 r k < 6) : ∀ n : Nat, n ≤ len → RG (mpl s r n).2
  | 0, _ => m00_rg _ _
  | n + 1, hn => by
    have ih := mpl_rg hD hk n (by omega)
    rw [mpl]
    split
    · exact ih
    · have := mtk_rg hD (hk n (by omega)).1 (hk n (by omega)).2 ih
      split <;> exact this
theorem mpl_stop {s : sS} {r : Int} {n : Nat} (h : (mpl s r n).1 ≠ -1) : ∀ j : Nat, mpl s r (n + j) = mpl s r n
  | 0 => rfl
  | j + 1 => by
    rw [← Nat.add_assoc, mpl, mpl_stop h j, if_pos h]
theorem mcm_cg {s s' : sS} {a : Int} {q : Nat → Int} (h1 : s 15 a (q 1) = s' 15 a (q 1)) (h2 : s 16 a 0 = s' 16 a 0) : mcm s a q = mcm s' a q := by
  unfold mcm mc1 mst
  rw [h1, h2]
def agD (s s' : sS) (d : Int) : Prop := s 13 d 4 = s' 13 d 4 ∧ s 13 d 5 = s' 13 d 5 ∧ ∀ f, 0 ≤ f → f < 3 → (∀ r, 0 ≤ r → r < 16 → s 14 (3 * d + f) r = s' 14 (3 * d + f) r ∧ s 15 (3 * d + f) r = s' 15 (3 * d + f) r) ∧ s 16 (3 * d + f) 0 = s' 16 (3 * d + f) 0 ∧ s 17 (3 * d + f) 0 = s' 17 (3 * d + f) 0
theorem mtk_cg {s s' : sS} {d key : Int} {q : Nat → Int} (ag : agD s s' d) (hD : ∀ f, 0 ≤ f → f < 3 → DOK (s 14 (3 * d + f))) (k0 : 0 ≤ key) (k1 : key < 6) (h : RG q) : mtk s d q key = mtk s' d q key := by
  obtain ⟨h1, h2, h3⟩ := h
  obtain ⟨a4, a5, af⟩ := ag
  by_cases e0 : q 4 = 0
  · have f3 := h3 e0
    obtain ⟨ar, a16, a17⟩ := af (q 0) h2.1 f3
    have w14 := (ar (q 1) h1.1 h1.2).1
    by_cases c : q 4 ≠ 0 ∨ (key = 4 ∧ q 1 ≠ s 17 (3 * d + q 0) 0) ∨ (key < 4 ∧ bt (s 14 (3 * d + q 0) (q 1)) key = 0)
    · rw [mtk_no c]
      rw [a17, w14] at c
      rw [mtk_no c]
    by_cases k : key < 4
    · have hb : ¬ bt (s 14 (3 * d + q 0) (q 1)) key = 0 := fun w => c (Or.inr (Or.inr ⟨k, w⟩))
      have nn := hD (q 0) h2.1 f3 (q 1) key h1.1 h1.2 k0 k hb
      have nr := (nb_r (d := key) h1.1 h1.2).resolve_left nn
      rw [mtk_go e0 k hb, mtk_go e0 k (by rw [← w14]; exact hb)]
      have b1 : upq q 1 (nb (q 1) key) 1 = nb (q 1) key := upq_s
      rw [mcm_cg (by rw [b1]; exact (ar _ nr.1 nr.2).2) a16]
    · by_cases k4 : key = 4
      · subst k4
        have er : q 1 = s 17 (3 * d + q 0) 0 := by
          by_cases w : q 1 = s 17 (3 * d + q 0) 0
          · exact w
          · exact absurd (Or.inr (Or.inl ⟨rfl, w⟩)) c
        rw [mtk_dn e0 er, mtk_dn e0 (by rw [← a17]; exact er)]
      · have k5 : key = 5 := by omega
        subst k5
        rw [mtk_rs e0, mtk_rs e0]
        unfold mrs
        rw [a4, a5]
  · rw [mtk_no (Or.inl e0), mtk_no (Or.inl e0)]
theorem mpl_cg {s s' : sS} {r : Int} {len : Nat} (e23 : s 23 r 0 = s' 23 r 0) (ag : agD s s' (s 23 r 0)) (hD : ∀ f, 0 ≤ f → f < 3 → DOK (s 14 (3 * s 23 r 0 + f))) (hk : ∀ k : Nat, k < len → s 20 r k = s' 20 r k ∧ 0 ≤ s 20 r k ∧ s 20 r k < 6) : ∀ n : Nat, n ≤ len → mpl s r n = mpl s' r n
  | 0, _ => by
    rw [mpl, mpl]
    unfold m00
    rw [← e23, ag.1]
  | n + 1, hn => by
    have ih := mpl_cg e23 ag hD hk n (by omega)
    have rg := mpl_rg hD (fun k hk2 => (hk k hk2).2) n (by omega)
    obtain ⟨k1, k2, k3⟩ := hk n (by omega)
    have := mtk_cg ag hD k2 k3 rg
    rw [mpl, mpl, ← ih, ← e23, ← k1, this]
theorem sT_c {T T' : mT} (h : ∀ k, k < 32 → T' k = T k) : sT T' = sT T := by
  funext k i j
  unfold sT
  split <;> first | rfl | rw [h 17 (by decide)] | rw [h 18 (by decide)] | rw [h 19 (by decide)] | rw [h 20 (by decide)] | rw [h 21 (by decide)] | rw [h 27 (by decide)] | rw [h 28 (by decide)] | rw [h 29 (by decide)] | rw [h 30 (by decide)]
def plP (T : mT) (r : Int) : Prop := (0 ≤ r ∧ r < 60) ∧ (0 ≤ T 30 r ∧ T 30 r < 20) ∧ (0 ≤ T 28 r ∧ T 28 r ≤ 60) ∧ (∀ k, 0 ≤ k → k < T 28 r → 0 ≤ T 27 (60 * r + k) ∧ T 27 (60 * r + k) < 6) ∧ ∀ f, 0 ≤ f → f < 3 → DOK (sT T 14 (3 * T 30 r + f))
def spX9_plays : ac_Sp := sc_RI (fun m r h => MK h m ∧ plP (tv h m) r) (fun m r h v h' => v = none ∧ ∃ T', MT h h' m T' ∧ (∀ k, k < 32 ∨ 39 < k → T' k = tv h m k) ∧ T' 39 0 = (mpl (sT (tv h m)) r (tv h m 28 r).toNat).1 ∧ GS T' (mpl (sT (tv h m)) r (tv h m 28 r).toNat).2) (fun _ _ _ _ _ => False)
def ivX9_plays (m r : Int) (h : ac_H) (T : mT) : Nat → Nat → ac_S := fun j mm => match j with
  | 0 => fun L S g k z => mm = 100 ∧ ent0 [some (.inr (.inl m)), some (.inl r), none, none] h L S g k z
  | 1 => fun L S g k z => ∃ (n : Nat) (T' : mT), (n : Int) ≤ T 28 r ∧ mm + n = 60 ∧ MT h g m T' ∧ (∀ k, k < 32 ∨ 39 < k → T' k = T k) ∧ T' 39 0 = (mpl (sT T) r n).1 ∧ GS T' (mpl (sT T) r n).2 ∧ L = [some (.inr (.inl m)), some (.inl r), some (.inl (T 30 r)), some (.inl n)] ∧ S = [] ∧ k = 0 ∧ z = 0
  | _ => fun _ _ _ _ _ => False
set_option maxRecDepth 100000 in
set_option maxHeartbeats 4000000 in
theorem mtX9_plays {G : ac_G} {l : Launch} : ac_Met G l yX9_plays mX9_plays 3 69 0 0 spX9_plays := by
  refine ac_meth (pcs := pcX9_plays) (B := fun P X J j => vcX9_plays spX9_turns P X J j) (by decide) rfl rfl rfl (fun P X J hJ j => sdX9_plays mtX9_turns P X J hJ j) (hp_RI (by decide)) fun As h hp => ?_
  obtain ⟨m, r, rfl, hp⟩ := sh_RI_inv hp
  obtain ⟨hK, hP⟩ := hp
  have hM := mt_0 hK
  obtain ⟨T, hT⟩ : ∃ T, tv h m = T := ⟨_, rfl⟩
  rw [hT] at hM hP
  obtain ⟨hr, hd, hl, hk, hD⟩ := hP
  have hk' : ∀ k : Nat, k < (T 28 r).toNat → 0 ≤ sT T 20 r k ∧ sT T 20 r k < 6 := fun k a => hk k (by omega) (by omega)
  refine ⟨ivX9_plays m r h T, 100, ⟨rfl, rfl, rfl, rfl, rfl, rfl⟩, fun j mm L S g k z hJ => ?_⟩
  match j, hJ with
  | 0, hJ =>
    obtain ⟨hm, rfl, rfl, rfl, rfl, rfl⟩ := hJ
    simp only [spX9_plays, vcX9_plays, mX9_plays, spX9_turns, ac_ent, ldI, ldR, stI, stR, inc, cI, cJ, cN, bop, oAdd, oSub, oMul, oAnd, oOr, oXor, oShl, oShr, oUshr, oRem, oDiv, oMx, oMn, oI2l, oLcmp, oDup, oDup2, oDupX1, oPop, bIc, bI0, bNul, getI, getR, putI, putZ, putR, aLen, aldI, aldZ, aldJ, aldR, astI, astZ, astJ, astR, nwO, nwA, gsT, oObj, oCpy, oCln, oCst, rtI, rtZ, rtR, rtV, thr, call, callH, ac_hsel, ac_as, ac_rs, ac_cs, ac_rcv, List.map_cons, List.map_nil, List.length_cons, List.length_nil, List.replicate, List.append_nil, List.cons_append, List.nil_append, List.getElem?_cons_zero, List.getElem?_cons_succ, List.set, Nat.zero_add, Nat.add_zero, Nat.le_refl, Nat.reduceAdd, Nat.reduceSub, Nat.reduceLeDiff, Int.reduceLT, Int.reduceLE, Int.reduceNeg, Int.reduceEq, true_and, and_true, true_or, or_true, not_true_eq_false, not_false_eq_true, false_implies, true_implies, implies_true, reduceIte, and_self, Int.reduceAdd, Int.reduceMul, Int.reduceSub, eq_self, Int.add_zero, Int.zero_add, String.reduceEq, Nat.zero_le, Option.some.injEq, Sum.inl.injEq, Sum.inr.injEq, reduceCtorEq, Int.reduceToNat, Option.toList_some, Option.toList_none, ac_cs, ac_c10, ac_c11, ac_c12, ac_c13, ac_c14, ac_c15, ac_c16, ac_c17, sc_E, sh_E, sc_I, sh_I, sc_II, sh_II, sc_III, sh_III, sc_R, sh_R, sc_RI, sh_RI, sc_RII, sh_RII, sc_RIII, sh_RIII, sc_RIIII, sh_RIIII, sc_RR, sh_RR, sc_RRI, sh_RRI, sc_RRR, sh_RRR, sc_RIR, sh_RIR, sc_RIRI, sh_RIRI, sc_RRII, sh_RRII, sc_RRIII, sh_RRIII, sc_RIIRR, sh_RIIRR, sc_RIIIRR, sh_RIIIRR, sc_RIIR, sh_RIIR, sc_RRIIR, sh_RRIIR, sc_RRIIIR, sh_RRIIIR, sc_RRIIIIR, sh_RRIIIIR, sc_RRIR, sh_RRIR, mt_k hM, mr_17 hM, mk_17 hM, ml_17 hM, mr_30 hM, mk_30 hM, ml_30 hM, up_k, ast_k, up_kf, ast_kf, ne_eq, Nat.reduceEqDiff, not_false_eq_true, hr]
    simp (disch := omega) only [wr_of]
    have hN := mt_f 39 (mt_f 38 (mt_f 37 (mt_f 36 (mt_f 35 (mt_f 34 (mt_f 33 (mt_f 32 hM rfl (v := 0)) rfl (v := 0)) rfl (v := T 17 (6 * T 30 r + 4))) rfl (v := 0)) rfl (v := 0)) rfl (v := 0)) rfl (v := 0)) rfl (v := -1)
    refine ⟨by omega, 60, by omega, 0, _, by omega, by omega, hN, fun k a => by rw [tu_k (by omega), tu_k (by omega), tu_k (by omega), tu_k (by omega), tu_k (by omega), tu_k (by omega), tu_k (by omega), tu_k (by omega)], tu_s, GS_of ?_, rfl, rfl, rfl, rfl⟩
    refine ⟨?_, ?_, ?_, ?_, ?_, ?_, ?_⟩ <;> simp only [tu_k, tu_s, ne_eq, Nat.reduceEqDiff, not_false_eq_true] <;> rfl
  | 1, hJ =>
    obtain ⟨n, T', n1, hm, hN, ho, h39, hG, rfl, rfl, rfl, rfl⟩ := hJ
    have e28 : T' 28 = T 28 := ho 28 (by decide)
    have e27 : T' 27 = T 27 := ho 27 (by decide)
    have es : sT T' = sT T := sT_c (fun k hk => ho k (Or.inl hk))
    obtain ⟨q0, q1, q2, q3, q4, q5, q6⟩ := GS_7 hG
    obtain ⟨g1, g2, g3⟩ := mpl_rg (s := sT T) (r := r) (len := (T 28 r).toNat) hD hk' n (by omega)
    simp only [spX9_plays, vcX9_plays, mX9_plays, spX9_turns, ac_ent, ldI, ldR, stI, stR, inc, cI, cJ, cN, bop, oAdd, oSub, oMul, oAnd, oOr, oXor, oShl, oShr, oUshr, oRem, oDiv, oMx, oMn, oI2l, oLcmp, oDup, oDup2, oDupX1, oPop, bIc, bI0, bNul, getI, getR, putI, putZ, putR, aLen, aldI, aldZ, aldJ, aldR, astI, astZ, astJ, astR, nwO, nwA, gsT, oObj, oCpy, oCln, oCst, rtI, rtZ, rtR, rtV, thr, call, callH, ac_hsel, ac_as, ac_rs, ac_cs, ac_rcv, List.map_cons, List.map_nil, List.length_cons, List.length_nil, List.replicate, List.append_nil, List.cons_append, List.nil_append, List.getElem?_cons_zero, List.getElem?_cons_succ, List.set, Nat.zero_add, Nat.add_zero, Nat.le_refl, Nat.reduceAdd, Nat.reduceSub, Nat.reduceLeDiff, Int.reduceLT, Int.reduceLE, Int.reduceNeg, Int.reduceEq, true_and, and_true, true_or, or_true, not_true_eq_false, not_false_eq_true, false_implies, true_implies, implies_true, reduceIte, and_self, Int.reduceAdd, Int.reduceMul, Int.reduceSub, eq_self, Int.add_zero, Int.zero_add, String.reduceEq, Nat.zero_le, Option.some.injEq, Sum.inl.injEq, Sum.inr.injEq, reduceCtorEq, Int.reduceToNat, Option.toList_some, Option.toList_none, ac_cs, ac_c10, ac_c11, ac_c12, ac_c13, ac_c14, ac_c15, ac_c16, ac_c17, sc_E, sh_E, sc_I, sh_I, sc_II, sh_II, sc_III, sh_III, sc_R, sh_R, sc_RI, sh_RI, sc_RII, sh_RII, sc_RIII, sh_RIII, sc_RIIII, sh_RIIII, sc_RR, sh_RR, sc_RRI, sh_RRI, sc_RRR, sh_RRR, sc_RIR, sh_RIR, sc_RIRI, sh_RIRI, sc_RRII, sh_RRII, sc_RRIII, sh_RRIII, sc_RIIRR, sh_RIIRR, sc_RIIIRR, sh_RIIIRR, sc_RIIR, sh_RIIR, sc_RRIIR, sh_RRIIR, sc_RRIIIR, sh_RRIIIR, sc_RRIIIIR, sh_RRIIIIR, sc_RRIR, sh_RRIR, mt_k hN, mr_27 hN, mk_27 hN, ml_27 hN, mr_28 hN, mk_28 hN, ml_28 hN, mr_39 hN, mt_K hN, mt_T hN, hr, e27, e28, h39, hT]
    simp (disch := omega) only [wr_of]
    refine ⟨fun q => ?_, fun q => ⟨fun q2 => ⟨by omega, ⟨⟨hd.1, hd.2⟩, hk n (by omega) (by omega), ?_, ?_, ?_, ?_⟩, ?_⟩, fun q2 => ?_⟩⟩
    · have : (T 28 r).toNat = n := by omega
      rw [this]
      exact ⟨T', hN, ho, h39, hG⟩
    · rw [q1]; exact g1
    · rw [q0]; exact g2
    · rw [q0, q4]; exact g3
    · rw [es]; exact hD
    · rintro v h1 ⟨T2, hN2, ho2, w, rfl, hw⟩
      obtain ⟨w1, w2⟩ := hw _ hG
      rw [es] at w1 w2
      have MS : mpl (sT T) r (n + 1) = if (mtk (sT T) (T 30 r) (mpl (sT T) r n).2 (T 27 (60 * r + n))).1 = 0 then ((n : Int), (mtk (sT T) (T 30 r) (mpl (sT T) r n).2 (T 27 (60 * r + n))).2) else (-1, (mtk (sT T) (T 30 r) (mpl (sT T) r n).2 (T 27 (60 * r + n))).2) := by
        rw [mpl, if_neg (by rw [q2]; exact fun c => c rfl)]
        rfl
      have fr2 : ∀ v k, k < 32 ∨ 39 < k → tu T2 39 0 v k = T k := fun v k a => by rw [tu_k (by omega), ho2 k (by omega), ho k a]
      have gs2 : ∀ v q, GS T2 q → GS (tu T2 39 0 v) q := fun v q hq i hi => by rw [tu_k (by omega)]; exact hq i hi
      simp only [mt_k hN2, ac_ent, ldI, ldR, stI, stR, inc, cI, cJ, cN, bop, oAdd, oSub, oMul, oAnd, oOr, oXor, oShl, oShr, oUshr, oRem, oDiv, oMx, oMn, oI2l, oLcmp, oDup, oDup2, oDupX1, oPop, bIc, bI0, bNul, getI, getR, putI, putZ, putR, aLen, aldI, aldZ, aldJ, aldR, astI, astZ, astJ, astR, nwO, nwA, gsT, oObj, oCpy, oCln, oCst, rtI, rtZ, rtR, rtV, thr, call, callH, ac_hsel, ac_as, ac_rs, ac_cs, ac_rcv, List.map_cons, List.map_nil, List.length_cons, List.length_nil, List.replicate, List.append_nil, List.cons_append, List.nil_append, List.getElem?_cons_zero, List.getElem?_cons_succ, List.set, Nat.zero_add, Nat.add_zero, Nat.le_refl, Nat.reduceAdd, Nat.reduceSub, Nat.reduceLeDiff, Int.reduceLT, Int.reduceLE, Int.reduceNeg, Int.reduceEq, true_and, and_true, true_or, or_true, not_true_eq_false, not_false_eq_true, false_implies, true_implies, implies_true, reduceIte, and_self, Int.reduceAdd, Int.reduceMul, Int.reduceSub, eq_self, Int.add_zero, Int.zero_add, String.reduceEq, Nat.zero_le, Option.some.injEq, Sum.inl.injEq, Sum.inr.injEq, reduceCtorEq, Int.reduceToNat, Option.toList_some, Option.toList_none, ac_cs, ac_c10, ac_c11, ac_c12, ac_c13, ac_c14, ac_c15, ac_c16, ac_c17, sc_E, sh_E, sc_I, sh_I, sc_II, sh_II, sc_III, sh_III, sc_R, sh_R, sc_RI, sh_RI, sc_RII, sh_RII, sc_RIII, sh_RIII, sc_RIIII, sh_RIIII, sc_RR, sh_RR, sc_RRI, sh_RRI, sc_RRR, sh_RRR, sc_RIR, sh_RIR, sc_RIRI, sh_RIRI, sc_RRII, sh_RRII, sc_RRIII, sh_RRIII, sc_RIIRR, sh_RIIRR, sc_RIIIRR, sh_RIIIRR, sc_RIIR, sh_RIIR, sc_RRIIR, sh_RRIIR, sc_RRIIIR, sh_RRIIIR, sc_RRIIIIR, sh_RRIIIIR, sc_RRIR, sh_RRIR]
      refine ⟨fun e => ?_, fun e => ?_⟩
      · refine ⟨mm - 1, by omega, n + 1, _, by omega, by omega, mt_tr hN (mt_f 39 hN2 rfl (v := (n : Int))), fr2 _, ?_, gs2 _ _ ?_, rfl, rfl, rfl, rfl⟩
        · rw [MS, if_pos (by rw [← w1]; exact e), tu_s]
        · rw [MS, if_pos (by rw [← w1]; exact e)]; exact w2
      · refine ⟨mm - 1, by omega, n + 1, _, by omega, by omega, mt_tr hN (mt_f 39 hN2 rfl (v := -1)), fr2 _, ?_, gs2 _ _ ?_, rfl, rfl, rfl, rfl⟩
        · rw [MS, if_neg (by rw [← w1]; exact e), tu_s]
        · rw [MS, if_neg (by rw [← w1]; exact e)]; exact w2
    · have := mpl_stop q2 ((T 28 r).toNat - n)
      rw [show n + ((T 28 r).toNat - n) = (T 28 r).toNat by omega] at this
      rw [this]
      exact ⟨T', hN, ho, h39, hG⟩
  | j + 2, hJ => exact hJ.elim
