/-! ===== what always holds of the state: floors ===== -/
theorem nb_back {r d : Int} (r0 : 0 ≤ r) (r1 : r < 16) (d0 : 0 ≤ d) (d1 : d < 4) (h : nb r d ≠ -1) : nb (nb r d) (3 - d) = r := by
  have c : d = 0 ∨ d = 1 ∨ d = 2 ∨ d = 3 := by omega
  rcases c with rfl | rfl | rfl | rfl
  · unfold nb at h ⊢; simp only [ac_ent, ldI, ldR, stI, stR, inc, cI, cJ, cN, bop, oAdd, oSub, oMul, oAnd, oOr, oXor, oShl, oShr, oUshr, oRem, oDiv, oMx, oMn, oI2l, oLcmp, oDup, oDup2, oDupX1, oPop, bIc, bI0, bNul, getI, getR, putI, putZ, putR, aLen, aldI, aldZ, aldJ, aldR, astI, astZ, astJ, astR, nwO, nwA, gsT, oObj, oCpy, oCln, oCst, rtI, rtZ, rtR, rtV, thr, call, callH, ac_hsel, ac_as, ac_rs, ac_cs, ac_rcv, List.map_cons, List.map_nil, List.length_cons, List.length_nil, List.replicate, List.append_nil, List.cons_append, List.nil_append, List.getElem?_cons_zero, List.getElem?_cons_succ, List.set, Nat.zero_add, Nat.add_zero, Nat.le_refl, Nat.reduceAdd, Nat.reduceSub, Nat.reduceLeDiff, Int.reduceLT, Int.reduceLE, Int.reduceNeg, Int.reduceEq, true_and, and_true, true_or, or_true, not_true_eq_false, not_false_eq_true, false_implies, true_implies, implies_true, reduceIte, and_self, Int.reduceAdd, Int.reduceMul, Int.reduceSub, eq_self, Int.add_zero, Int.zero_add, String.reduceEq, Nat.zero_le, Option.some.injEq, Sum.inl.injEq, Sum.inr.injEq, reduceCtorEq, Int.reduceToNat, Option.toList_some, Option.toList_none, ac_cs, ac_c10, ac_c11, ac_c12, ac_c13, ac_c14, ac_c15, ac_c16, ac_c17, sc_E, sh_E, sc_I, sh_I, sc_II, sh_II, sc_III, sh_III, sc_R, sh_R, sc_RI, sh_RI, sc_RII, sh_RII, sc_RIII, sh_RIII, sc_RIIII, sh_RIIII, sc_RR, sh_RR, sc_RRI, sh_RRI, sc_RRR, sh_RRR, sc_RIR, sh_RIR, sc_RIRI, sh_RIRI, sc_RRII, sh_RRII, sc_RRIII, sh_RRIII, sc_RIIRR, sh_RIIRR, sc_RIIIRR, sh_RIIIRR, sc_RIIR, sh_RIIR, sc_RRIIR, sh_RRIIR, sc_RRIIIR, sh_RRIIIR, sc_RRIIIIR, sh_RRIIIIR, sc_RRIR, sh_RRIR] at h ⊢; (repeat' split at h) <;> (repeat' split) <;> omega
  · unfold nb at h ⊢; simp only [ac_ent, ldI, ldR, stI, stR, inc, cI, cJ, cN, bop, oAdd, oSub, oMul, oAnd, oOr, oXor, oShl, oShr, oUshr, oRem, oDiv, oMx, oMn, oI2l, oLcmp, oDup, oDup2, oDupX1, oPop, bIc, bI0, bNul, getI, getR, putI, putZ, putR, aLen, aldI, aldZ, aldJ, aldR, astI, astZ, astJ, astR, nwO, nwA, gsT, oObj, oCpy, oCln, oCst, rtI, rtZ, rtR, rtV, thr, call, callH, ac_hsel, ac_as, ac_rs, ac_cs, ac_rcv, List.map_cons, List.map_nil, List.length_cons, List.length_nil, List.replicate, List.append_nil, List.cons_append, List.nil_append, List.getElem?_cons_zero, List.getElem?_cons_succ, List.set, Nat.zero_add, Nat.add_zero, Nat.le_refl, Nat.reduceAdd, Nat.reduceSub, Nat.reduceLeDiff, Int.reduceLT, Int.reduceLE, Int.reduceNeg, Int.reduceEq, true_and, and_true, true_or, or_true, not_true_eq_false, not_false_eq_true, false_implies, true_implies, implies_true, reduceIte, and_self, Int.reduceAdd, Int.reduceMul, Int.reduceSub, eq_self, Int.add_zero, Int.zero_add, String.reduceEq, Nat.zero_le, Option.some.injEq, Sum.inl.injEq, Sum.inr.injEq, reduceCtorEq, Int.reduceToNat, Option.toList_some, Option.toList_none, ac_cs, ac_c10, ac_c11, ac_c12, ac_c13, ac_c14, ac_c15, ac_c16, ac_c17, sc_E, sh_E, sc_I, sh_I, sc_II, sh_II, sc_III, sh_III, sc_R, sh_R, sc_RI, sh_RI, sc_RII, sh_RII, sc_RIII, sh_RIII, sc_RIIII, sh_RIIII, sc_RR, sh_RR, sc_RRI, sh_RRI, sc_RRR, sh_RRR, sc_RIR, sh_RIR, sc_RIRI, sh_RIRI, sc_RRII, sh_RRII, sc_RRIII, sh_RRIII, sc_RIIRR, sh_RIIRR, sc_RIIIRR, sh_RIIIRR, sc_RIIR, sh_RIIR, sc_RRIIR, sh_RRIIR, sc_RRIIIR, sh_RRIIIR, sc_RRIIIIR, sh_RRIIIIR, sc_RRIR, sh_RRIR] at h ⊢; (repeat' split at h) <;> (repeat' split) <;> omega
  · unfold nb at h ⊢; simp only [ac_ent, ldI, ldR, stI, stR, inc, cI, cJ, cN, bop, oAdd, oSub, oMul, oAnd, oOr, oXor, oShl, oShr, oUshr, oRem, oDiv, oMx, oMn, oI2l, oLcmp, oDup, oDup2, oDupX1, oPop, bIc, bI0, bNul, getI, getR, putI, putZ, putR, aLen, aldI, aldZ, aldJ, aldR, astI, astZ, astJ, astR, nwO, nwA, gsT, oObj, oCpy, oCln, oCst, rtI, rtZ, rtR, rtV, thr, call, callH, ac_hsel, ac_as, ac_rs, ac_cs, ac_rcv, List.map_cons, List.map_nil, List.length_cons, List.length_nil, List.replicate, List.append_nil, List.cons_append, List.nil_append, List.getElem?_cons_zero, List.getElem?_cons_succ, List.set, Nat.zero_add, Nat.add_zero, Nat.le_refl, Nat.reduceAdd, Nat.reduceSub, Nat.reduceLeDiff, Int.reduceLT, Int.reduceLE, Int.reduceNeg, Int.reduceEq, true_and, and_true, true_or, or_true, not_true_eq_false, not_false_eq_true, false_implies, true_implies, implies_true, reduceIte, and_self, Int.reduceAdd, Int.reduceMul, Int.reduceSub, eq_self, Int.add_zero, Int.zero_add, String.reduceEq, Nat.zero_le, Option.some.injEq, Sum.inl.injEq, Sum.inr.injEq, reduceCtorEq, Int.reduceToNat, Option.toList_some, Option.toList_none, ac_cs, ac_c10, ac_c11, ac_c12, ac_c13, ac_c14, ac_c15, ac_c16, ac_c17, sc_E, sh_E, sc_I, sh_I, sc_II, sh_II, sc_III, sh_III, sc_R, sh_R, sc_RI, sh_RI, sc_RII, sh_RII, sc_RIII, sh_RIII, sc_RIIII, sh_RIIII, sc_RR, sh_RR, sc_RRI, sh_RRI, sc_RRR, sh_RRR, sc_RIR, sh_RIR, sc_RIRI, sh_RIRI, sc_RRII, sh_RRII, sc_RRIII, sh_RRIII, sc_RIIRR, sh_RIIRR, sc_RIIIRR, sh_RIIIRR, sc_RIIR, sh_RIIR, sc_RRIIR, sh_RRIIR, sc_RRIIIR, sh_RRIIIR, sc_RRIIIIR, sh_RRIIIIR, sc_RRIR, sh_RRIR] at h ⊢; (repeat' split at h) <;> (repeat' split) <;> omega
  · unfold nb at h ⊢; simp only [ac_ent, ldI, ldR, stI, stR, inc, cI, cJ, cN, bop, oAdd, oSub, oMul, oAnd, oOr, oXor, oShl, oShr, oUshr, oRem, oDiv, oMx, oMn, oI2l, oLcmp, oDup, oDup2, oDupX1, oPop, bIc, bI0, bNul, getI, getR, putI, putZ, putR, aLen, aldI, aldZ, aldJ, aldR, astI, astZ, astJ, astR, nwO, nwA, gsT, oObj, oCpy, oCln, oCst, rtI, rtZ, rtR, rtV, thr, call, callH, ac_hsel, ac_as, ac_rs, ac_cs, ac_rcv, List.map_cons, List.map_nil, List.length_cons, List.length_nil, List.replicate, List.append_nil, List.cons_append, List.nil_append, List.getElem?_cons_zero, List.getElem?_cons_succ, List.set, Nat.zero_add, Nat.add_zero, Nat.le_refl, Nat.reduceAdd, Nat.reduceSub, Nat.reduceLeDiff, Int.reduceLT, Int.reduceLE, Int.reduceNeg, Int.reduceEq, true_and, and_true, true_or, or_true, not_true_eq_false, not_false_eq_true, false_implies, true_implies, implies_true, reduceIte, and_self, Int.reduceAdd, Int.reduceMul, Int.reduceSub, eq_self, Int.add_zero, Int.zero_add, String.reduceEq, Nat.zero_le, Option.some.injEq, Sum.inl.injEq, Sum.inr.injEq, reduceCtorEq, Int.reduceToNat, Option.toList_some, Option.toList_none, ac_cs, ac_c10, ac_c11, ac_c12, ac_c13, ac_c14, ac_c15, ac_c16, ac_c17, sc_E, sh_E, sc_I, sh_I, sc_II, sh_II, sc_III, sh_III, sc_R, sh_R, sc_RI, sh_RI, sc_RII, sh_RII, sc_RIII, sh_RIII, sc_RIIII, sh_RIIII, sc_RR, sh_RR, sc_RRI, sh_RRI, sc_RRR, sh_RRR, sc_RIR, sh_RIR, sc_RIRI, sh_RIRI, sc_RRII, sh_RRII, sc_RRIII, sh_RRIII, sc_RIIRR, sh_RIIRR, sc_RIIIRR, sh_RIIIRR, sc_RIIR, sh_RIIR, sc_RRIIR, sh_RRIIR, sc_RRIIIR, sh_RRIIIR, sc_RRIIIIR, sh_RRIIIIR, sc_RRIR, sh_RRIR] at h ⊢; (repeat' split at h) <;> (repeat' split) <;> omega
theorem dopn_bt {f : Int → Int} {r d r' d' : Int} (r0 : 0 ≤ r) (r1 : r < 16) (d0 : 0 ≤ d) (d1 : d < 4) (d0' : 0 ≤ d') (d1' : d' < 4) (h : nb r d ≠ -1) : bt (dopn f r d r') d' = if (r' = r ∧ d' = d) ∨ (r' = nb r d ∧ d' = 3 - d) then 1 else bt (f r') d' := by
  unfold dopn
  rw [if_neg h]
  simp only [fu]
  have b : ∀ b i : Int, 0 ≤ i → i < 4 → bt (ior b (ishl 1 i)) d' = if d' = i then 1 else bt b d' := fun b i i0 i1 => bt_set i0 (by omega) d0' (by omega)
  by_cases c1 : r' = nb r d
  · rw [if_pos c1, b _ _ (by omega) (by omega)]
    by_cases c2 : d' = 3 - d
    · rw [if_pos c2, if_pos (Or.inr ⟨c1, c2⟩)]
    · rw [if_neg c2]
      by_cases c3 : nb r d = r
      · rw [if_pos c3, b _ _ d0 d1]
        by_cases c4 : d' = d
        · rw [if_pos c4, if_pos (Or.inl ⟨by omega, c4⟩)]
        · rw [if_neg c4, if_neg (by omega), c1, c3]
      · rw [if_neg c3, if_neg (by omega), c1]
  · rw [if_neg c1]
    by_cases c3 : r' = r
    · rw [if_pos c3, b _ _ d0 d1]
      by_cases c4 : d' = d
      · rw [if_pos c4, if_pos (Or.inl ⟨c3, c4⟩)]
      · rw [if_neg c4, if_neg (by omega), c3]
    · rw [if_neg c3, if_neg (by omega)]
theorem dopn_DOK {f : Int → Int} {r d : Int} (r0 : 0 ≤ r) (r1 : r < 16) (d0 : 0 ≤ d) (d1 : d < 4) (h : DOK f) : DOK (dopn f r d) := by
  by_cases c : nb r d = -1
  · unfold dopn; rw [if_pos c]; exact h
  · intro r' d' a1 a2 a3 a4 hb
    rw [dopn_bt r0 r1 d0 d1 a3 a4 c] at hb
    by_cases q : (r' = r ∧ d' = d) ∨ (r' = nb r d ∧ d' = 3 - d)
    · rcases q with ⟨rfl, rfl⟩ | ⟨rfl, rfl⟩
      · exact c
      · rw [nb_back r0 r1 d0 d1 c]; omega
    · rw [if_neg q] at hb
      exact h r' d' a1 a2 a3 a4 hb
/-- no door of f is missing in g -/
def dle (f g : Int → Int) : Prop := ∀ r d, 0 ≤ r → r < 16 → 0 ≤ d → d < 4 → bt (f r) d ≠ 0 → bt (g r) d ≠ 0
theorem dle_tr {f g h : Int → Int} (a : dle f g) (b : dle g h) : dle f h := fun r d r0 r1 d0 d1 q => b r d r0 r1 d0 d1 (a r d r0 r1 d0 d1 q)
theorem dle_o {f : Int → Int} {r d : Int} (r0 : 0 ≤ r) (r1 : r < 16) (d0 : 0 ≤ d) (d1 : d < 4) : dle f (dopn f r d) := by
  by_cases c : nb r d = -1
  · unfold dopn; rw [if_pos c]; exact fun _ _ _ _ _ _ q => q
  · intro r' d' a1 a2 a3 a4 hb
    rw [dopn_bt r0 r1 d0 d1 a3 a4 c]
    split
    · decide
    · exact hb
theorem glD_le {x : Int} {f : Int → Int} : ∀ n, dle f (glD x f n)
  | 0 => fun _ _ _ _ _ _ q => q
  | n + 1 => by
    rw [glD]
    exact dle_tr (glD_le n) (dle_o (by omega) (by omega) (by omega) (by omega))
theorem glD_DOK {x : Int} {f : Int → Int} (h : DOK f) : ∀ n, DOK (glD x f n)
  | 0 => h
  | n + 1 => by
    rw [glD]
    exact dopn_DOK (by omega) (by omega) (by omega) (by omega) (glD_DOK h n)
/-- one room more: where it comes from -/
theorem gw_step {x e : Int} (hx : 0 ≤ x ∧ x < 65537) (he : 0 ≤ e ∧ e < 16) {n : Nat} (hn : n < 15) : ∃ j d : Int, (0 ≤ j ∧ j ≤ n) ∧ (0 ≤ d ∧ d < 4) ∧ nb ((gwT x e (fun _ => 0) n).1 j) d ≠ -1 ∧ (gwT x e (fun _ => 0) (n + 1)).1 = fu (gwT x e (fun _ => 0) n).1 ((n : Int) + 1) (nb ((gwT x e (fun _ => 0) n).1 j) d) ∧ (gwT x e (fun _ => 0) (n + 1)).2.2 = dopn (gwT x e (fun _ => 0) n).2.2 ((gwT x e (fun _ => 0) n).1 j) d := by
  have s0 := Int.emod_nonneg (xk x (2 * n + 1)) (show ((n : Int) + 1) ≠ 0 by omega)
  have s1 := Int.emod_lt_of_pos (xk x (2 * n + 1)) (show (0 : Int) < (n : Int) + 1 by omega)
  have t0 := (xk_r hx (2 * n + 2)).1
  have g := GI_gwi (GI_n (D := fun _ => 0) hx he n (by omega)) hn s0 s1 t0
  have TS : gwT x e (fun _ => 0) (n + 1) = gws (gwT x e (fun _ => 0) n) (n + 1) (xk x (2 * n + 1) % ((n : Int) + 1)) (xk x (2 * n + 2)) := rfl
  generalize gwT x e (fun _ => 0) n = Q at g TS
  rw [TS]
  unfold gws
  rw [if_neg g]
  dsimp only
  have c := fnd_cases (P := fun i => decide (d2n (Q.1 ((xk x (2 * n + 1) % ((n : Int) + 1) + i) % ((n + 1 : Nat) : Int))) (xk x (2 * n + 2)) Q.2.1 ≠ -1)) (n + 1)
  rcases c with ⟨e1, -⟩ | ⟨e1, e2, e3, -⟩
  · exact absurd e1 g
  have e4 := of_decide_eq_true e3
  change d2n (Q.1 ((xk x (2 * n + 1) % ((n : Int) + 1) + gwi Q.1 Q.2.1 (xk x (2 * n + 1) % ((n : Int) + 1)) (xk x (2 * n + 2)) (n + 1)) % ((n + 1 : Nat) : Int))) (xk x (2 * n + 2)) Q.2.1 ≠ -1 at e4
  obtain ⟨d0, d1, d2, d3⟩ := d2n_ok e4 t0
  have m0 := Int.emod_nonneg (xk x (2 * n + 1) % ((n : Int) + 1) + gwi Q.1 Q.2.1 (xk x (2 * n + 1) % ((n : Int) + 1)) (xk x (2 * n + 2)) (n + 1)) (show ((n + 1 : Nat) : Int) ≠ 0 by omega)
  have m1 := Int.emod_lt_of_pos (xk x (2 * n + 1) % ((n : Int) + 1) + gwi Q.1 Q.2.1 (xk x (2 * n + 1) % ((n : Int) + 1)) (xk x (2 * n + 2)) (n + 1)) (show (0 : Int) < ((n + 1 : Nat) : Int) by omega)
  exact ⟨_, _, ⟨m0, by omega⟩, ⟨d0, d1⟩, d2, rfl, rfl⟩
theorem gw_le {x e : Int} (hx : 0 ≤ x ∧ x < 65537) (he : 0 ≤ e ∧ e < 16) {n : Nat} (hn : n < 15) : dle (gwT x e (fun _ => 0) n).2.2 (gwT x e (fun _ => 0) (n + 1)).2.2 := by
  obtain ⟨j, d, j0, d0, h1, h2, h3⟩ := gw_step hx he hn
  rw [h3]
  exact dle_o (gwT_r hx he n j).1 (gwT_r hx he n j).2 d0.1 d0.2
theorem gw_DOK {x e : Int} (hx : 0 ≤ x ∧ x < 65537) (he : 0 ≤ e ∧ e < 16) : ∀ n : Nat, n ≤ 15 → DOK (gwT x e (fun _ => 0) n).2.2
  | 0, _ => by
    intro r d r0 r1 d0 d1 hb
    exact absurd (bt_0 d0 (by omega)) hb
  | n + 1, hn => by
    obtain ⟨j, d, j0, d0, h1, h2, h3⟩ := gw_step hx he (show n < 15 by omega)
    rw [h3]
    exact dopn_DOK (gwT_r hx he n j).1 (gwT_r hx he n j).2 d0.1 d0.2 (gw_DOK hx he n (by omega))
theorem gw_le15 {x e : Int} (hx : 0 ≤ x ∧ x < 65537) (he : 0 ≤ e ∧ e < 16) : ∀ k n : Nat, n + k = 15 → dle (gwT x e (fun _ => 0) n).2.2 (gwT x e (fun _ => 0) 15).2.2
  | 0, n, h => by
    have : n = 15 := by omega
    subst this
    exact fun _ _ _ _ _ _ q => q
  | k + 1, n, h => dle_tr (gw_le hx he (by omega)) (gw_le15 hx he k (n + 1) (by omega))
theorem gw_all {x e : Int} {f far : Int → Int} (hx : 0 ≤ x ∧ x < 65537) (he : 0 ≤ e ∧ e < 16) (hf : dle (gwT x e (fun _ => 0) 15).2.2 f) (w : WD f e far) : ∀ n : Nat, n ≤ 15 → ∀ j : Int, 0 ≤ j → j ≤ n → far ((gwT x e (fun _ => 0) n).1 j) ≠ -1
  | 0, _, j, j0, j1 => by
    have : j = 0 := by omega
    subst this
    show far (fu (fun _ => 0) 0 e 0) ≠ -1
    rw [fu, if_pos rfl, w.1]; decide
  | n + 1, hn, j, j0, j1 => by
    obtain ⟨i, d, i0, d0, h1, h2, h3⟩ := gw_step hx he (show n < 15 by omega)
    rw [h2, fu]
    have ih := gw_all hx he hf w n (by omega)
    by_cases c : j = (n : Int) + 1
    · rw [if_pos c]
      have r := gwT_r (D := fun _ => 0) hx he n i
      have b : bt (f ((gwT x e (fun _ => 0) n).1 i)) d ≠ 0 := by
        refine hf _ d r.1 r.2 d0.1 d0.2 (gw_le15 hx he (15 - (n + 1)) (n + 1) (by omega) _ d r.1 r.2 d0.1 d0.2 ?_)
        rw [h3, dopn_bt r.1 r.2 d0.1 d0.2 d0.1 d0.2 h1, if_pos (Or.inl ⟨rfl, rfl⟩)]
        decide
      have hb : bhd f ((gwT x e (fun _ => 0) n).1 i) d = nb ((gwT x e (fun _ => 0) n).1 i) d := by unfold bhd; rw [if_neg b]
      have := (w.2.2.1 _ d r.1 r.2 d0.1 d0.2 (ih i i0.1 i0.2) (by rw [hb]; exact h1)).1
      rw [hb] at this
      exact this
    · rw [if_neg c]
      exact ih j j0 (by omega)
theorem BI_ex {f : Int → Int} {e : Int} : ∀ (n : Nat) (far li : Int → Int) (cnt i dir : Int), BI f e far li cnt i dir → (dir = 0 ∨ i < cnt) → ((16 - i) * 5 + 4 - dir = n) → ∃ far, WD f e far := by
  intro n
  induction n with
  | zero =>
    intro far li cnt i dir h hd hn
    have := h.1
    by_cases q : cnt ≤ i
    · have : dir = 0 := by omega
      subst this
      exact ⟨far, BI_end h q⟩
    · omega
  | succ n ih =>
    intro far li cnt i dir h hd hn
    have h1 := h.1
    by_cases q : cnt ≤ i
    · have : dir = 0 := by omega
      subst this
      exact ⟨far, BI_end h q⟩
    · by_cases q4 : dir = 4
      · subst q4
        exact ih far li cnt (i + 1) 0 (BI_next h (by omega)) (Or.inl rfl) (by omega)
      · by_cases s : bhd f (li i) dir = -1 ∨ far (bhd f (li i) dir) ≠ -1
        · exact ih far li cnt i (dir + 1) (BI_skip h (by omega) (by omega) s) (Or.inr (by omega)) (by omega)
        · have s1 : bhd f (li i) dir ≠ -1 := fun w => s (Or.inl w)
          have s2 : far (bhd f (li i) dir) = -1 := by
            by_cases z : far (bhd f (li i) dir) = -1
            · exact z
            · exact absurd (Or.inr z) s
          exact ih _ _ (cnt + 1) i (dir + 1) (BI_add h (by omega) (by omega) s1 s2) (Or.inr (by omega)) (by omega)
theorem WD_ex {f : Int → Int} {e : Int} (he : 0 ≤ e ∧ e < 16) : ∃ far, WD f e far :=
  BI_ex 84 (fun r => if r = e then 0 else -1) (fun _ => e) 1 0 0 (BI_0 he (fun r _ _ => rfl) rfl) (Or.inl rfl) (by omega)
theorem fD_ok {x e : Int} {R : Int → Int} (hx : 0 ≤ x ∧ x < 65537) (he : 0 ≤ e ∧ e < 16) : WDc (fD x e R) e (dst (fD x e R) e) ∧ DOK (fD x e R) := by
  obtain ⟨far, hw⟩ := WD_ex (f := fD x e R) he
  have w := dst_wd hw
  refine ⟨⟨w, fun r r0 r1 => ?_⟩, glD_DOK (gw_DOK hx he 15 (by omega)) _⟩
  have g := GI_n (D := fun _ => 0) hx he 15 (by omega)
  have lbr : lb (gwT x e (fun _ => 0) 15).2.1 r = true := by
    cases q : lb (gwT x e (fun _ => 0) 15).2.1 r
    · exfalso
      have := fcn_pos (st := (gwT x e (fun _ => 0) 15).2.1) (i := r.toNat) 16 (by omega) (by rw [Int.toNat_of_nonneg r0]; exact q)
      have := g.2.2
      omega
    · rfl
  obtain ⟨j, j0, j1, j2⟩ := g.2.1 r r0 r1 lbr
  rw [← j2]
  exact gw_all hx he (glD_le _) w 15 (by omega) j j0 j1
