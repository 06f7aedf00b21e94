/-! ===== the model: the game ===== -/
def sT (T : mT) : sS := fun k i j => match k with
  | 13 => T 17 (6 * i + j)
  | 14 => T 18 (16 * i + j)
  | 15 => T 19 (16 * i + j)
  | 16 => T 20 i
  | 17 => T 21 i
  | 20 => T 27 (60 * i + j)
  | 21 => T 28 i
  | 22 => T 29 i
  | 23 => T 30 i
  | _ => 0
def GS (T : mT) (q : Nat → Int) : Prop := ∀ i, i < 7 → T (32 + i) 0 = q i
theorem GS_7 {T : mT} {q : Nat → Int} (h : GS T q) : T 32 0 = q 0 ∧ T 33 0 = q 1 ∧ T 34 0 = q 2 ∧ T 35 0 = q 3 ∧ T 36 0 = q 4 ∧ T 37 0 = q 5 ∧ T 38 0 = q 6 := ⟨h 0 (by decide), h 1 (by decide), h 2 (by decide), h 3 (by decide), h 4 (by decide), h 5 (by decide), h 6 (by decide)⟩
theorem GS_of {T : mT} {q : Nat → Int} (h : T 32 0 = q 0 ∧ T 33 0 = q 1 ∧ T 34 0 = q 2 ∧ T 35 0 = q 3 ∧ T 36 0 = q 4 ∧ T 37 0 = q 5 ∧ T 38 0 = q 6) : GS T q := by
  intro i hi
  have c : i = 0 ∨ i = 1 ∨ i = 2 ∨ i = 3 ∨ i = 4 ∨ i = 5 ∨ i = 6 := by omega
  rcases c with rfl | rfl | rfl | rfl | rfl | rfl | rfl
  · exact h.1
  · exact h.2.1
  · exact h.2.2.1
  · exact h.2.2.2.1
  · exact h.2.2.2.2.1
  · exact h.2.2.2.2.2.1
  · exact h.2.2.2.2.2.2
def spX9_comes : ac_Sp := sc_RI (fun m a h => MK h m ∧ (0 ≤ a ∧ a < 60) ∧ 0 ≤ tv h m 33 0 ∧ tv h m 33 0 < 16) (fun m a h v h' => v = none ∧ ∃ T', MT h h' m T' ∧ (∀ k, k < 32 ∨ 39 ≤ k → T' k = tv h m k) ∧ ∀ q, GS (tv h m) q → GS T' (mcm (sT (tv h m)) a q)) (fun _ _ _ _ _ => False)
def ivX9_comes (m a : Int) (h : ac_H) (T : mT) : Nat → Nat → ac_S := fun j mm => match j with
  | 0 => fun L S g k z => mm = 1 ∧ ent0 [some (.inr (.inl m)), some (.inl a), none] h L S g k z
  | 1 => fun L S g k z => mm = 0 ∧ L = [some (.inr (.inl m)), some (.inl a), none] ∧ S = [.inl (if bt (T 37 0) (T 33 0) = 1 then 0 else T 19 (16 * a + T 33 0))] ∧ g = h ∧ k = 0 ∧ z = 0
  | _ => fun _ _ _ _ _ => False
theorem up_sj {h : ac_H} {k : Nat} {a v : Int} : up h k a 0 v k a 0 = v := up_self ..
set_option maxRecDepth 100000 in
set_option maxHeartbeats 4000000 in
theorem mtX9_comes {G : ac_G} {l : Launch} : ac_Met G l yX9_comes mX9_comes 0 0 0 0 spX9_comes := by
  refine ac_meth (pcs := pcX9_comes) (B := fun P X J j => vcX9_comes P X J j) (by decide) rfl rfl rfl (fun P X J hJ j => sdX9_comes P X J hJ j) (hp_RI (by decide)) fun As h hp => ?_
  obtain ⟨m, a, rfl, hp⟩ := sh_RI_inv hp
  obtain ⟨hK, ha, hr⟩ := hp
  have hM := mt_0 hK
  obtain ⟨T, hT⟩ : ∃ T, tv h m = T := ⟨_, rfl⟩
  rw [hT] at hM hr
  refine ⟨ivX9_comes m a h T, 1, ⟨rfl, rfl, rfl, rfl, rfl, rfl⟩, fun j mm L S g k z hJ => ?_⟩
  match j, hJ with
  | 0, hJ =>
    obtain ⟨hm, rfl, rfl, rfl, rfl, rfl⟩ := hJ
    simp only [spX9_comes, vcX9_comes, mX9_comes, ac_ent, ldI, ldR, stI, stR, inc, cI, cJ, cN, bop, oAdd, oSub, oMul, oAnd, oOr, oXor, oShl, oShr, oUshr, oRem, oDiv, oMx, oMn, oI2l, oLcmp, oDup, oDup2, oDupX1, oPop, bIc, bI0, bNul, getI, getR, putI, putZ, putR, aLen, aldI, aldZ, aldJ, aldR, astI, astZ, astJ, astR, nwO, nwA, gsT, oObj, oCpy, oCln, oCst, rtI, rtZ, rtR, rtV, thr, call, callH, ac_hsel, ac_as, ac_rs, ac_cs, ac_rcv, List.map_cons, List.map_nil, List.length_cons, List.length_nil, List.replicate, List.append_nil, List.cons_append, List.nil_append, List.getElem?_cons_zero, List.getElem?_cons_succ, List.set, Nat.zero_add, Nat.add_zero, Nat.le_refl, Nat.reduceAdd, Nat.reduceSub, Nat.reduceLeDiff, Int.reduceLT, Int.reduceLE, Int.reduceNeg, Int.reduceEq, true_and, and_true, true_or, or_true, not_true_eq_false, not_false_eq_true, false_implies, true_implies, implies_true, reduceIte, and_self, Int.reduceAdd, Int.reduceMul, Int.reduceSub, eq_self, Int.add_zero, Int.zero_add, String.reduceEq, Nat.zero_le, Option.some.injEq, Sum.inl.injEq, Sum.inr.injEq, reduceCtorEq, Int.reduceToNat, Option.toList_some, Option.toList_none, ac_cs, ac_c10, ac_c11, ac_c12, ac_c13, ac_c14, ac_c15, ac_c16, ac_c17, sc_E, sh_E, sc_I, sh_I, sc_II, sh_II, sc_III, sh_III, sc_R, sh_R, sc_RI, sh_RI, sc_RII, sh_RII, sc_RIII, sh_RIII, sc_RIIII, sh_RIIII, sc_RR, sh_RR, sc_RRI, sh_RRI, sc_RRR, sh_RRR, sc_RIR, sh_RIR, sc_RIRI, sh_RIRI, sc_RRII, sh_RRII, sc_RRIII, sh_RRIII, sc_RIIRR, sh_RIIRR, sc_RIIIRR, sh_RIIIRR, sc_RIIR, sh_RIIR, sc_RRIIR, sh_RRIIR, sc_RRIIIR, sh_RRIIIR, sc_RRIIIIR, sh_RRIIIIR, sc_RRIR, sh_RRIR, mt_k hM, mr_19 hM, mk_19 hM, ml_19 hM, mr_33 hM, mr_37 hM]
    simp (disch := omega) only [wr_of]
    refine ⟨fun q => ⟨0, by omega, rfl, rfl, by rw [if_pos (show bt (T 37 0) (T 33 0) = 1 from q)], rfl, rfl, rfl⟩, fun q => ⟨by omega, 0, by omega, rfl, rfl, by rw [if_neg (show ¬ bt (T 37 0) (T 33 0) = 1 from q)], rfl, rfl, rfl⟩⟩
  | 1, hJ =>
    obtain ⟨hm, rfl, rfl, rfl, rfl, rfl⟩ := hJ
    obtain ⟨w, hw⟩ : ∃ w, (if bt (T 37 0) (T 33 0) = 1 then 0 else T 19 (16 * a + T 33 0)) = w := ⟨_, rfl⟩
    rw [hw]
    have hN : ∀ x1 x2 x3, MT g (up (up (up g 1034 m 0 x1) 1035 m 0 x2) 1037 m 0 x3) m (tu (tu (tu T 34 0 x1) 35 0 x2) 37 0 x3) := fun x1 x2 x3 => mt_f 37 (mt_f 35 (mt_f 34 hM rfl) rfl) rfl
    have hN2 := fun x1 x2 x3 x4 => mt_f 36 (hN x1 x2 x3) rfl (v := x4)
    have hN3 := fun x1 x2 x3 x4 x5 => mt_f 35 (mt_f 38 (hN x1 x2 x3) rfl (v := x4)) rfl (v := x5)
    have ms : ∀ q, GS T q → mst (sT T) a q = w := fun q hq => by
      obtain ⟨q0, q1, q2, q3, q4, q5, q6⟩ := GS_7 hq
      unfold mst
      rw [← hw, ← q5, ← q1]
      rfl
    simp only [spX9_comes, vcX9_comes, mX9_comes, ac_ent, ldI, ldR, stI, stR, inc, cI, cJ, cN, bop, oAdd, oSub, oMul, oAnd, oOr, oXor, oShl, oShr, oUshr, oRem, oDiv, oMx, oMn, oI2l, oLcmp, oDup, oDup2, oDupX1, oPop, bIc, bI0, bNul, getI, getR, putI, putZ, putR, aLen, aldI, aldZ, aldJ, aldR, astI, astZ, astJ, astR, nwO, nwA, gsT, oObj, oCpy, oCln, oCst, rtI, rtZ, rtR, rtV, thr, call, callH, ac_hsel, ac_as, ac_rs, ac_cs, ac_rcv, List.map_cons, List.map_nil, List.length_cons, List.length_nil, List.replicate, List.append_nil, List.cons_append, List.nil_append, List.getElem?_cons_zero, List.getElem?_cons_succ, List.set, Nat.zero_add, Nat.add_zero, Nat.le_refl, Nat.reduceAdd, Nat.reduceSub, Nat.reduceLeDiff, Int.reduceLT, Int.reduceLE, Int.reduceNeg, Int.reduceEq, true_and, and_true, true_or, or_true, not_true_eq_false, not_false_eq_true, false_implies, true_implies, implies_true, reduceIte, and_self, Int.reduceAdd, Int.reduceMul, Int.reduceSub, eq_self, Int.add_zero, Int.zero_add, String.reduceEq, Nat.zero_le, Option.some.injEq, Sum.inl.injEq, Sum.inr.injEq, reduceCtorEq, Int.reduceToNat, Option.toList_some, Option.toList_none, ac_cs, ac_c10, ac_c11, ac_c12, ac_c13, ac_c14, ac_c15, ac_c16, ac_c17, sc_E, sh_E, sc_I, sh_I, sc_II, sh_II, sc_III, sh_III, sc_R, sh_R, sc_RI, sh_RI, sc_RII, sh_RII, sc_RIII, sh_RIII, sc_RIIII, sh_RIIII, sc_RR, sh_RR, sc_RRI, sh_RRI, sc_RRR, sh_RRR, sc_RIR, sh_RIR, sc_RIRI, sh_RIRI, sc_RRII, sh_RRII, sc_RRIII, sh_RRIII, sc_RIIRR, sh_RIIRR, sc_RIIIRR, sh_RIIIRR, sc_RIIR, sh_RIIR, sc_RRIIR, sh_RRIIR, sc_RRIIIR, sh_RRIIIR, sc_RRIIIIR, sh_RRIIIIR, sc_RRIR, sh_RRIR, mt_k hM, mr_20 hM, mk_20 hM, ml_20 hM, mr_33 hM, mr_34 hM, mr_35 hM, mr_37 hM, mr_38 hM, up_k, ast_k, up_kf, ast_kf, ne_eq, Nat.reduceEqDiff, not_false_eq_true, up_sj, ha, hT]
    refine ⟨fun e => ⟨fun e2 => ⟨fun e3 => ?_, fun e3 => ?_⟩, fun e2 => ?_⟩, fun e => ?_⟩
    · refine ⟨_, hN3 _ _ _ _ _, fun k hk => by rw [tu_k (by omega), tu_k (by omega), tu_k (by omega), tu_k (by omega), tu_k (by omega)], fun q hq => GS_of ?_⟩
      have mq := ms q hq
      obtain ⟨q0, q1, q2, q3, q4, q5, q6⟩ := GS_7 hq
      have ec : mcm (sT T) a q = upq (upq (mc1 (sT T) a q) 6 (ior (q 6) (ishl 1 (q 1)))) 3 (wr (mc1 (sT T) a q 3 + 5)) := by
        unfold mcm
        rw [if_neg, if_pos]
        · rw [← q1, ← q6]; exact ⟨e2, e3⟩
        · unfold mc1
          rw [upq_n (by decide), upq_n (by decide), upq_s, mq, ← q2]
          omega
      rw [ec]
      unfold mc1
      rw [mq, ← q2, ← q3, ← q1, ← q5, ← q6]
      refine ⟨?_, ?_, ?_, ?_, ?_, ?_, ?_⟩ <;> simp only [tu_k, tu_s, ne_eq, Nat.reduceEqDiff, not_false_eq_true, upq, Nat.reduceEqDiff, reduceIte] <;> assumption
    · refine ⟨_, hN _ _ _, fun k hk => by rw [tu_k (by omega), tu_k (by omega), tu_k (by omega)], fun q hq => GS_of ?_⟩
      have mq := ms q hq
      obtain ⟨q0, q1, q2, q3, q4, q5, q6⟩ := GS_7 hq
      have ec : mcm (sT T) a q = mc1 (sT T) a q := by
        unfold mcm
        rw [if_neg, if_neg]
        · rw [← q1, ← q6]; exact fun c => e3 c.2
        · unfold mc1
          rw [upq_n (by decide), upq_n (by decide), upq_s, mq, ← q2]
          omega
      rw [ec]
      unfold mc1
      rw [mq, ← q2, ← q3, ← q1, ← q5]
      refine ⟨?_, ?_, ?_, ?_, ?_, ?_, ?_⟩ <;> simp only [tu_k, tu_s, ne_eq, Nat.reduceEqDiff, not_false_eq_true, upq, Nat.reduceEqDiff, reduceIte] <;> assumption
    · refine ⟨_, hN _ _ _, fun k hk => by rw [tu_k (by omega), tu_k (by omega), tu_k (by omega)], fun q hq => GS_of ?_⟩
      have mq := ms q hq
      obtain ⟨q0, q1, q2, q3, q4, q5, q6⟩ := GS_7 hq
      have ec : mcm (sT T) a q = mc1 (sT T) a q := by
        unfold mcm
        rw [if_neg, if_neg]
        · rw [← q1, ← q6]; exact fun c => e2 c.1
        · unfold mc1
          rw [upq_n (by decide), upq_n (by decide), upq_s, mq, ← q2]
          omega
      rw [ec]
      unfold mc1
      rw [mq, ← q2, ← q3, ← q1, ← q5]
      refine ⟨?_, ?_, ?_, ?_, ?_, ?_, ?_⟩ <;> simp only [tu_k, tu_s, ne_eq, Nat.reduceEqDiff, not_false_eq_true, upq, Nat.reduceEqDiff, reduceIte] <;> assumption
    · refine ⟨_, hN2 _ _ _ _, fun k hk => by rw [tu_k (by omega), tu_k (by omega), tu_k (by omega), tu_k (by omega)], fun q hq => GS_of ?_⟩
      have mq := ms q hq
      obtain ⟨q0, q1, q2, q3, q4, q5, q6⟩ := GS_7 hq
      have ec : mcm (sT T) a q = upq (mc1 (sT T) a q) 4 1 := by
        unfold mcm
        rw [if_pos]
        · unfold mc1
          rw [upq_n (by decide), upq_n (by decide), upq_s, mq, ← q2]
          omega
      rw [ec]
      unfold mc1
      rw [mq, ← q2, ← q3, ← q1, ← q5]
      refine ⟨?_, ?_, ?_, ?_, ?_, ?_, ?_⟩ <;> simp only [tu_k, tu_s, ne_eq, Nat.reduceEqDiff, not_false_eq_true, upq, Nat.reduceEqDiff, reduceIte] <;> assumption
  | j + 2, hJ => exact hJ.elim
