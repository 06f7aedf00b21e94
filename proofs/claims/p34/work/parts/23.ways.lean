/-! ===== the ways of a floor ===== -/
theorem fnd_cases {P : Int → Bool} : ∀ n : Nat, (fnd P n = -1 ∧ ∀ j : Int, 0 ≤ j → j < n → P j = false) ∨ (0 ≤ fnd P n ∧ fnd P n < n ∧ P (fnd P n) = true ∧ ∀ j : Int, 0 ≤ j → j < fnd P n → P j = false)
  | 0 => Or.inl ⟨rfl, fun j a b => by omega⟩
  | n + 1 => by
    rcases fnd_cases (P := P) n with ⟨h1, h2⟩ | ⟨h1, h2, h3, h4⟩
    · by_cases e : P n = true
      · right
        have : fnd P (n + 1) = n := by simp [fnd, h1, e]
        rw [this]
        exact ⟨by omega, by omega, e, fun j a b => h2 j a b⟩
      · left
        refine ⟨by simp [fnd, h1, e], fun j a b => ?_⟩
        by_cases q : j = n
        · subst q; simpa using e
        · exact h2 j a (by omega)
    · right
      have e : fnd P n ≠ -1 := by omega
      have : fnd P (n + 1) = fnd P n := by simp [fnd, e]
      rw [this]
      exact ⟨h1, by omega, h3, h4⟩
theorem d2n_ok {r t b : Int} (h : d2n r t b ≠ -1) (t0 : 0 ≤ t) : 0 ≤ d2n r t b ∧ d2n r t b < 4 ∧ nb r (d2n r t b) ≠ -1 ∧ bt b (nb r (d2n r t b)) = 0 := by
  unfold d2n at h ⊢
  by_cases e : fnd (d2p r t b) 4 = -1
  · rw [if_pos e] at h; exact absurd rfl h
  · rw [if_neg e]
    rcases fnd_cases (P := d2p r t b) 4 with ⟨h1, -⟩ | ⟨h1, h2, h3, -⟩
    · exact absurd h1 e
    · simp only [d2p, decide_eq_true_eq] at h3
      exact ⟨by omega, by omega, h3.1, h3.2⟩
def gwi (L : Int → Int) (b s t : Int) (m : Nat) : Int := fnd (fun i => decide (d2n (L ((s + i) % m)) t b ≠ -1)) m
/-- one room more: list, bits, doors -/
def gws (T : (Int → Int) × Int × (Int → Int)) (m : Nat) (s t : Int) : (Int → Int) × Int × (Int → Int) :=
  if gwi T.1 T.2.1 s t m = -1 then T else
    let r := T.1 ((s + gwi T.1 T.2.1 s t m) % m)
    (fu T.1 m (nb r (d2n r t T.2.1)), ior T.2.1 (ishl 1 (nb r (d2n r t T.2.1))), dopn T.2.2 r (d2n r t T.2.1))
def gwT (x e : Int) (D : Int → Int) : Nat → (Int → Int) × Int × (Int → Int)
  | 0 => (fu (fun _ => 0) 0 e, ishl 1 e, D)
  | n + 1 => gws (gwT x e D n) (n + 1) (xk x (2 * n + 1) % ((n : Int) + 1)) (xk x (2 * n + 2))
theorem gwT_r {x e : Int} {D : Int → Int} (hx : 0 ≤ x ∧ x < 65537) (he : 0 ≤ e ∧ e < 16) : ∀ (n : Nat) (j : Int), 0 ≤ (gwT x e D n).1 j ∧ (gwT x e D n).1 j < 16
  | 0, j => by
    simp only [gwT, fu]
    split <;> omega
  | n + 1, j => by
    simp only [gwT, gws]
    split
    · exact gwT_r hx he n j
    · rename_i q
      simp only [fu]
      split
      · have h1 := fnd_cases (P := fun i => decide (d2n ((gwT x e D n).1 ((xk x (2 * n + 1) % ((n : Int) + 1) + i) % ((n + 1 : Nat) : Int))) (xk x (2 * n + 2)) (gwT x e D n).2.1 ≠ -1)) (n + 1)
        rcases h1 with ⟨h1, -⟩ | ⟨h1, h2, h3, -⟩
        · exact absurd h1 q
        · have h4 := d2n_ok (of_decide_eq_true h3) (xk_r hx _).1
          exact (nb_r (gwT_r hx he n _).1 (gwT_r hx he n _).2).resolve_left h4.2.2.1
      · exact gwT_r hx he n j
def gwG (h : ac_H) (a d c : Int) (n q : Nat) : ac_H := up (ast (ast (up (up h 0 c 0 10) 1 c 0 16) (h 402 a 0) (gwT (h 200 d 0) (h 400 a 0) (h 10 (h 402 a 0)) n).2.2) c (gwT (h 200 d 0) (h 400 a 0) (h 10 (h 402 a 0)) n).1) 200 d 0 (xk (h 200 d 0) q)
def gwH (h : ac_H) (a d : Int) : ac_H := up (ast h (h 402 a 0) (gwT (h 200 d 0) (h 400 a 0) (h 10 (h 402 a 0)) 15).2.2) 200 d 0 (xk (h 200 d 0) 30)
/-- h' goes on from g -/
def ag (h' g : ac_H) : Prop := ∀ (k : Nat) (a j : Int), g 0 a 0 ≠ 0 → h' k a j = g k a j
theorem gwG_k {h : ac_H} {a d c : Int} {n q k : Nat} {a' j : Int} (e0 : k ≠ 0) (e1 : k ≠ 1) (e2 : k ≠ 10) (e3 : k ≠ 200) : gwG h a d c n q k a' j = h k a' j := by
  unfold gwG; rw [up_k e3, ast_k e2, ast_k e2, up_k e1, up_k e0]
theorem gwG_0 {h : ac_H} {a d c : Int} {n q : Nat} {a' : Int} (e : a' ≠ c) : gwG h a d c n q 0 a' 0 = h 0 a' 0 := by
  unfold gwG; rw [up_k (by decide), ast_k (by decide), ast_k (by decide), up_k (by decide), up_a e]
theorem gwG_1 {h : ac_H} {a d c : Int} {n q : Nat} {a' : Int} (e : a' ≠ c) : gwG h a d c n q 1 a' 0 = h 1 a' 0 := by
  unfold gwG; rw [up_k (by decide), ast_k (by decide), ast_k (by decide), up_a e, up_k (by decide)]
theorem gwG_c0 {h : ac_H} {a d c : Int} {n q : Nat} : gwG h a d c n q 0 c 0 = 10 := by
  unfold gwG; rw [up_k (by decide), ast_k (by decide), ast_k (by decide), up_k (by decide), up_self]
theorem gwG_c1 {h : ac_H} {a d c : Int} {n q : Nat} : gwG h a d c n q 1 c 0 = 16 := by
  unfold gwG; rw [up_k (by decide), ast_k (by decide), ast_k (by decide), up_self]
theorem gwG_200 {h : ac_H} {a d c : Int} {n q : Nat} : gwG h a d c n q 200 d 0 = xk (h 200 d 0) q := by unfold gwG; rw [up_self]
theorem gwG_L {h : ac_H} {a d c : Int} {n q : Nat} : gwG h a d c n q 10 c = (gwT (h 200 d 0) (h 400 a 0) (h 10 (h 402 a 0)) n).1 := by
  unfold gwG; rw [up_kf (by decide), ast_10']
theorem gwG_D {h : ac_H} {a d c : Int} {n q : Nat} (e : h 402 a 0 ≠ c) : gwG h a d c n q 10 (h 402 a 0) = (gwT (h 200 d 0) (h 400 a 0) (h 10 (h 402 a 0)) n).2.2 := by
  unfold gwG; rw [up_kf (by decide), ast_af e, ast_10']
theorem gwG_up {h : ac_H} {a d c : Int} {n q : Nat} : up (gwG h a d c n q) 200 d 0 (xk (h 200 d 0) (q + 1)) = gwG h a d c n (q + 1) := by
  funext k a' j
  simp only [gwG, up]
  by_cases e : k = 200 ∧ a' = d ∧ j = 0
  · simp [e]
  · simp [e]
theorem gwG_step {h : ac_H} {a d c : Int} {n q : Nat} {F E : Int → Int} (e : h 402 a 0 ≠ c) (hE : (gwT (h 200 d 0) (h 400 a 0) (h 10 (h 402 a 0)) (n + 1)).1 = F) (hF : (gwT (h 200 d 0) (h 400 a 0) (h 10 (h 402 a 0)) (n + 1)).2.2 = E) :
    ast (ast (gwG h a d c n q) c F) (h 402 a 0) E = gwG h a d c (n + 1) q := by
  funext k a' j
  simp only [gwG, up, ast, hE, hF]
  by_cases e1 : k = 10
  · subst e1
    by_cases e2 : a' = c
    · have e4 : ¬ c = h 402 a 0 := fun q => e q.symm
      simp [e2, e4]
    · by_cases e3 : a' = h 402 a 0 <;> simp [e2, e3, e]
  · simp [e1]
def spX3_growWays : ac_Sp := sc_RR (fun a d h => FLk h a ∧ DRk h d) (fun a d h v h' => v = none ∧ ag h' (gwH h a d)) (fun _ _ _ _ _ => False)
def ivX3_growWays (a d : Int) (h : ac_H) : Nat → Nat → ac_S := fun j m => match j with
  | 0 => fun L S g k n => m = 5000 ∧ ent0 [some (.inr (.inl a)), some (.inr (.inl d)), none, none, none, none, none, none, none, none] h L S g k n
  | 1 => fun L S g k n => ∃ (c : Int) (i : Nat) (o5 o6 o7 o8 o9 : Option ac_V), i ≤ 15 ∧ m = (15 - i) * 100 ∧ ac_new h c ∧ L = [some (.inr (.inl a)), some (.inr (.inl d)), some (.inr (.inl c)), some (.inl (gwT (h 200 d 0) (h 400 a 0) (h 10 (h 402 a 0)) i).2.1), some (.inl (i + 1)), o5, o6, o7, o8, o9] ∧ S = [] ∧ g = gwG h a d c i (2 * i) ∧ k = 1 ∧ n = 16
  | 2 => fun L S g k n => ∃ (c : Int) (i : Nat) (p : Int) (o8 o9 : Option ac_V), i < 15 ∧ (m : Int) = (15 - i) * 100 - 1 - p ∧ ac_new h c ∧ 0 ≤ p ∧ p ≤ i + 1 ∧ (∀ j, 0 ≤ j → j < p → d2n ((gwT (h 200 d 0) (h 400 a 0) (h 10 (h 402 a 0)) i).1 ((xk (h 200 d 0) (2 * i + 1) % ((i : Int) + 1) + j) % ((i : Int) + 1))) (xk (h 200 d 0) (2 * i + 2)) (gwT (h 200 d 0) (h 400 a 0) (h 10 (h 402 a 0)) i).2.1 = -1) ∧
      L = [some (.inr (.inl a)), some (.inr (.inl d)), some (.inr (.inl c)), some (.inl (gwT (h 200 d 0) (h 400 a 0) (h 10 (h 402 a 0)) i).2.1), some (.inl (i + 1)), some (.inl (xk (h 200 d 0) (2 * i + 1) % ((i : Int) + 1))), some (.inl (xk (h 200 d 0) (2 * i + 2))), some (.inl p), o8, o9] ∧ S = [] ∧ g = gwG h a d c i (2 * i + 2) ∧ k = 1 ∧ n = 16
  | _ => fun _ _ _ _ _ => False
set_option maxRecDepth 100000 in
set_option maxHeartbeats 4000000 in
theorem mtX3_growWays {G : ac_G} {l : Launch} : ac_Met G l yX3_growWays mX3_growWays 2 48 1 16 spX3_growWays := by
  refine ac_meth (pcs := pcX3_growWays) (B := fun P X J j => vcX3_growWays spX1_next spX8_remainder spX3_directionToNew spX8_neighbour spX3_openDoor P X J j) (by decide) rfl rfl rfl (fun P X J hJ j => sdX3_growWays mtX1_next mtX8_remainder mtX3_directionToNew mtX8_neighbour mtX3_openDoor P X J hJ j) (hp_RR (by decide)) fun As h hp => ?_
  obtain ⟨a, d, rfl, hp⟩ := sh_RR_inv hp
  obtain ⟨hf, hd⟩ := hp
  obtain ⟨f1, f2, f3, f4, f5, -⟩ := id hf
  have hx : 0 ≤ h 200 d 0 ∧ h 200 d 0 < 65537 := hd.2
  refine ⟨ivX3_growWays a d h, 5000, ⟨rfl, rfl, rfl, rfl, rfl, rfl⟩, fun j m L S g k n hI => ?_⟩
  match j, hI with
  | 0, hI =>
    obtain ⟨hm, rfl, rfl, rfl, rfl, rfl⟩ := hI
    simp only [spX3_growWays, vcX3_growWays, mX3_growWays, spX1_next, spX8_remainder, spX3_directionToNew, spX8_neighbour, spX3_openDoor, ac_ent, ldI, ldR, stI, stR, inc, cI, cJ, cN, bop, oAdd, oSub, oMul, oAnd, oOr, oXor, oShl, oShr, oUshr, oRem, oDiv, oMx, oMn, oI2l, oLcmp, oDup, oDup2, oDupX1, oPop, bIc, bI0, bNul, getI, getR, putI, putZ, putR, aLen, aldI, aldZ, aldJ, aldR, astI, astZ, astJ, astR, nwO, nwA, gsT, oObj, oCpy, oCln, oCst, rtI, rtZ, rtR, rtV, thr, call, callH, ac_hsel, ac_as, ac_rs, ac_cs, ac_rcv, List.map_cons, List.map_nil, List.length_cons, List.length_nil, List.replicate, List.append_nil, List.cons_append, List.nil_append, List.getElem?_cons_zero, List.getElem?_cons_succ, List.set, Nat.zero_add, Nat.add_zero, Nat.le_refl, Nat.reduceAdd, Nat.reduceSub, Nat.reduceLeDiff, Int.reduceLT, Int.reduceLE, Int.reduceNeg, Int.reduceEq, true_and, and_true, true_or, or_true, not_true_eq_false, not_false_eq_true, false_implies, true_implies, implies_true, reduceIte, and_self, Int.reduceAdd, Int.reduceMul, Int.reduceSub, eq_self, Int.add_zero, Int.zero_add, String.reduceEq, Nat.zero_le, Option.some.injEq, Sum.inl.injEq, Sum.inr.injEq, reduceCtorEq, Int.reduceToNat, Option.toList_some, Option.toList_none, ac_cs, ac_c10, ac_c11, ac_c12, ac_c13, ac_c14, ac_c15, ac_c16, ac_c17, sc_E, sh_E, sc_I, sh_I, sc_II, sh_II, sc_III, sh_III, sc_R, sh_R, sc_RI, sh_RI, sc_RII, sh_RII, sc_RIII, sh_RIII, sc_RIIII, sh_RIIII, sc_RR, sh_RR, sc_RRI, sh_RRI, sc_RRR, sh_RRR, sc_RIR, sh_RIR, sc_RIRI, sh_RIRI, sc_RRII, sh_RRII, sc_RRIII, sh_RRIII, sc_RIIRR, sh_RIIRR, sc_RIIIRR, sh_RIIIRR, sc_RIIR, sh_RIIR, sc_RRIIR, sh_RRIIR, sc_RRIIIR, sh_RRIIIR, sc_RRIIIIR, sh_RRIIIIR, sc_RRIR, sh_RRIR, f1]
    intro c hc
    have Dc : g 402 a 0 ≠ c := new_ne hc (by rw [f4]; decide)
    have ac : a ≠ c := new_ne hc (by rw [f1]; decide)
    refine ⟨by simp [up, ac, f1], by simp [up], by simp [up, ac, f1], 1500, by omega, c, 0, none, none, none, none, none, by omega, by omega, hc, ?_, rfl, ?_, rfl, rfl⟩
    · simp only [up_k, ast_k, up_kf, ast_kf, ne_eq, Nat.reduceEqDiff, not_false_eq_true, gwT]
      rfl
    · have e0 : g 10 c = fun _ => 0 := by funext j; exact hc.2 _ _
      simp only [up_k, ast_k, up_kf, ast_kf, ne_eq, Nat.reduceEqDiff, not_false_eq_true, gwG, gwT, up10, e0]
      funext k' a' j'
      simp only [ast, up]
      by_cases e1 : k' = 10
      · subst e1
        by_cases e2 : a' = c
        · simp [e2]
        · by_cases e3 : a' = g 402 a 0 <;> simp [e2, e3]
      · by_cases e2 : k' = 200 ∧ a' = d ∧ j' = 0
        · simp [e2, xk]
        · simp [e1, e2]
  | 1, hI =>
    obtain ⟨c, i, o5, o6, o7, o8, o9, i1, hm, hc, rfl, rfl, rfl, rfl, rfl⟩ := hI
    have dc : d ≠ c := new_ne hc (by rw [hd.1]; decide)
    have Dc : h 402 a 0 ≠ c := new_ne hc (by rw [f4]; decide)
    have ac : a ≠ c := new_ne hc (by rw [f1]; decide)
    simp only [spX3_growWays, vcX3_growWays, mX3_growWays, spX1_next, spX8_remainder, spX3_directionToNew, spX8_neighbour, spX3_openDoor, ac_ent, ldI, ldR, stI, stR, inc, cI, cJ, cN, bop, oAdd, oSub, oMul, oAnd, oOr, oXor, oShl, oShr, oUshr, oRem, oDiv, oMx, oMn, oI2l, oLcmp, oDup, oDup2, oDupX1, oPop, bIc, bI0, bNul, getI, getR, putI, putZ, putR, aLen, aldI, aldZ, aldJ, aldR, astI, astZ, astJ, astR, nwO, nwA, gsT, oObj, oCpy, oCln, oCst, rtI, rtZ, rtR, rtV, thr, call, callH, ac_hsel, ac_as, ac_rs, ac_cs, ac_rcv, List.map_cons, List.map_nil, List.length_cons, List.length_nil, List.replicate, List.append_nil, List.cons_append, List.nil_append, List.getElem?_cons_zero, List.getElem?_cons_succ, List.set, Nat.zero_add, Nat.add_zero, Nat.le_refl, Nat.reduceAdd, Nat.reduceSub, Nat.reduceLeDiff, Int.reduceLT, Int.reduceLE, Int.reduceNeg, Int.reduceEq, true_and, and_true, true_or, or_true, not_true_eq_false, not_false_eq_true, false_implies, true_implies, implies_true, reduceIte, and_self, Int.reduceAdd, Int.reduceMul, Int.reduceSub, eq_self, Int.add_zero, Int.zero_add, String.reduceEq, Nat.zero_le, Option.some.injEq, Sum.inl.injEq, Sum.inr.injEq, reduceCtorEq, Int.reduceToNat, Option.toList_some, Option.toList_none, ac_cs, ac_c10, ac_c11, ac_c12, ac_c13, ac_c14, ac_c15, ac_c16, ac_c17, sc_E, sh_E, sc_I, sh_I, sc_II, sh_II, sc_III, sh_III, sc_R, sh_R, sc_RI, sh_RI, sc_RII, sh_RII, sc_RIII, sh_RIII, sc_RIIII, sh_RIIII, sc_RR, sh_RR, sc_RRI, sh_RRI, sc_RRR, sh_RRR, sc_RIR, sh_RIR, sc_RIRI, sh_RIRI, sc_RRII, sh_RRII, sc_RRIII, sh_RRIII, sc_RIIRR, sh_RIIRR, sc_RIIIRR, sh_RIIIRR, sc_RIIR, sh_RIIR, sc_RRIIR, sh_RRIIR, sc_RRIIIR, sh_RRIIIR, sc_RRIIIIR, sh_RRIIIIR, sc_RRIR, sh_RRIR, gwG_0 dc, gwG_200, hd.1]
    refine ⟨fun q => ?_, fun q => ?_⟩
    · intro k' a' j' h0
      have ne : a' ≠ c := by
        intro e
        apply h0
        rw [e]
        simp only [gwH, up_k, ast_k, up_kf, ast_kf, ne_eq, Nat.reduceEqDiff, not_false_eq_true]
        exact hc.2 _ _
      have i15 : i = 15 := by omega
      subst i15
      simp only [gwG, gwH, up, ast]
      by_cases e1 : k' = 10
      · subst e1
        by_cases e3 : a' = h 402 a 0 <;> simp [ne, e3, Dc]
      · simp [e1, ne]
    · refine ⟨xk_r hx _, ?_⟩
      rintro v h' ⟨rfl, rfl⟩
      have g1 := xk_r hx (2 * i + 1)
      have g2 := xk_r hx (2 * i + 2)
      have e1 : drw (xk (h 200 d 0) (2 * i)) = xk (h 200 d 0) (2 * i + 1) := rfl
      have e2 : drw (xk (h 200 d 0) (2 * i + 1)) = xk (h 200 d 0) (2 * i + 2) := rfl
      have pos : 0 < (i : Int) + 1 := by omega
      simp only [e1, g1.1, pos, ac_ent, ldI, ldR, stI, stR, inc, cI, cJ, cN, bop, oAdd, oSub, oMul, oAnd, oOr, oXor, oShl, oShr, oUshr, oRem, oDiv, oMx, oMn, oI2l, oLcmp, oDup, oDup2, oDupX1, oPop, bIc, bI0, bNul, getI, getR, putI, putZ, putR, aLen, aldI, aldZ, aldJ, aldR, astI, astZ, astJ, astR, nwO, nwA, gsT, oObj, oCpy, oCln, oCst, rtI, rtZ, rtR, rtV, thr, call, callH, ac_hsel, ac_as, ac_rs, ac_cs, ac_rcv, List.map_cons, List.map_nil, List.length_cons, List.length_nil, List.replicate, List.append_nil, List.cons_append, List.nil_append, List.getElem?_cons_zero, List.getElem?_cons_succ, List.set, Nat.zero_add, Nat.add_zero, Nat.le_refl, Nat.reduceAdd, Nat.reduceSub, Nat.reduceLeDiff, Int.reduceLT, Int.reduceLE, Int.reduceNeg, Int.reduceEq, true_and, and_true, true_or, or_true, not_true_eq_false, not_false_eq_true, false_implies, true_implies, implies_true, reduceIte, and_self, Int.reduceAdd, Int.reduceMul, Int.reduceSub, eq_self, Int.add_zero, Int.zero_add, String.reduceEq, Nat.zero_le, Option.some.injEq, Sum.inl.injEq, Sum.inr.injEq, reduceCtorEq, Int.reduceToNat, Option.toList_some, Option.toList_none, ac_cs, ac_c10, ac_c11, ac_c12, ac_c13, ac_c14, ac_c15, ac_c16, ac_c17, sc_E, sh_E, sc_I, sh_I, sc_II, sh_II, sc_III, sh_III, sc_R, sh_R, sc_RI, sh_RI, sc_RII, sh_RII, sc_RIII, sh_RIII, sc_RIIII, sh_RIIII, sc_RR, sh_RR, sc_RRI, sh_RRI, sc_RRR, sh_RRR, sc_RIR, sh_RIR, sc_RIRI, sh_RIRI, sc_RRII, sh_RRII, sc_RRIII, sh_RRIII, sc_RIIRR, sh_RIIRR, sc_RIIIRR, sh_RIIIRR, sc_RIIR, sh_RIIR, sc_RRIIR, sh_RRIIR, sc_RRIIIR, sh_RRIIIR, sc_RRIIIIR, sh_RRIIIIR, sc_RRIR, sh_RRIR]
      rintro v h' ⟨rfl, rfl⟩
      simp only [gwG_up, gwG_0 dc, gwG_200, hd.1, g1.1, g1.2, up_k, ast_k, up_kf, ast_kf, ne_eq, Nat.reduceEqDiff, not_false_eq_true, ac_ent, ldI, ldR, stI, stR, inc, cI, cJ, cN, bop, oAdd, oSub, oMul, oAnd, oOr, oXor, oShl, oShr, oUshr, oRem, oDiv, oMx, oMn, oI2l, oLcmp, oDup, oDup2, oDupX1, oPop, bIc, bI0, bNul, getI, getR, putI, putZ, putR, aLen, aldI, aldZ, aldJ, aldR, astI, astZ, astJ, astR, nwO, nwA, gsT, oObj, oCpy, oCln, oCst, rtI, rtZ, rtR, rtV, thr, call, callH, ac_hsel, ac_as, ac_rs, ac_cs, ac_rcv, List.map_cons, List.map_nil, List.length_cons, List.length_nil, List.replicate, List.append_nil, List.cons_append, List.nil_append, List.getElem?_cons_zero, List.getElem?_cons_succ, List.set, Nat.zero_add, Nat.add_zero, Nat.le_refl, Nat.reduceAdd, Nat.reduceSub, Nat.reduceLeDiff, Int.reduceLT, Int.reduceLE, Int.reduceNeg, Int.reduceEq, true_and, and_true, true_or, or_true, not_true_eq_false, not_false_eq_true, false_implies, true_implies, implies_true, reduceIte, and_self, Int.reduceAdd, Int.reduceMul, Int.reduceSub, eq_self, Int.add_zero, Int.zero_add, String.reduceEq, Nat.zero_le, Option.some.injEq, Sum.inl.injEq, Sum.inr.injEq, reduceCtorEq, Int.reduceToNat, Option.toList_some, Option.toList_none, ac_cs, ac_c10, ac_c11, ac_c12, ac_c13, ac_c14, ac_c15, ac_c16, ac_c17, sc_E, sh_E, sc_I, sh_I, sc_II, sh_II, sc_III, sh_III, sc_R, sh_R, sc_RI, sh_RI, sc_RII, sh_RII, sc_RIII, sh_RIII, sc_RIIII, sh_RIIII, sc_RR, sh_RR, sc_RRI, sh_RRI, sc_RRR, sh_RRR, sc_RIR, sh_RIR, sc_RIRI, sh_RIRI, sc_RRII, sh_RRII, sc_RRIII, sh_RRIII, sc_RIIRR, sh_RIIRR, sc_RIIIRR, sh_RIIIRR, sc_RIIR, sh_RIIR, sc_RRIIR, sh_RRIIR, sc_RRIIIR, sh_RRIIIR, sc_RRIIIIR, sh_RRIIIIR, sc_RRIR, sh_RRIR]
      rintro v h' ⟨rfl, rfl⟩
      rw [e2, gwG_up]
      refine ⟨(15 - i) * 100 - 1, by omega, c, i, 0, o8, o9, by omega, by omega, hc, by omega, by omega, fun j a b => by omega, rfl, rfl, rfl, rfl, rfl⟩
  | 2, hI =>
    obtain ⟨c, i, p, o8, o9, i1, hm, hc, p0, p1, hp, rfl, rfl, rfl, rfl, rfl⟩ := hI
    have dc : d ≠ c := new_ne hc (by rw [hd.1]; decide)
    have Dc : h 402 a 0 ≠ c := new_ne hc (by rw [f4]; decide)
    have ac : a ≠ c := new_ne hc (by rw [f1]; decide)
    simp only [spX3_growWays, vcX3_growWays, mX3_growWays, spX1_next, spX8_remainder, spX3_directionToNew, spX8_neighbour, spX3_openDoor, ac_ent, ldI, ldR, stI, stR, inc, cI, cJ, cN, bop, oAdd, oSub, oMul, oAnd, oOr, oXor, oShl, oShr, oUshr, oRem, oDiv, oMx, oMn, oI2l, oLcmp, oDup, oDup2, oDupX1, oPop, bIc, bI0, bNul, getI, getR, putI, putZ, putR, aLen, aldI, aldZ, aldJ, aldR, astI, astZ, astJ, astR, nwO, nwA, gsT, oObj, oCpy, oCln, oCst, rtI, rtZ, rtR, rtV, thr, call, callH, ac_hsel, ac_as, ac_rs, ac_cs, ac_rcv, List.map_cons, List.map_nil, List.length_cons, List.length_nil, List.replicate, List.append_nil, List.cons_append, List.nil_append, List.getElem?_cons_zero, List.getElem?_cons_succ, List.set, Nat.zero_add, Nat.add_zero, Nat.le_refl, Nat.reduceAdd, Nat.reduceSub, Nat.reduceLeDiff, Int.reduceLT, Int.reduceLE, Int.reduceNeg, Int.reduceEq, true_and, and_true, true_or, or_true, not_true_eq_false, not_false_eq_true, false_implies, true_implies, implies_true, reduceIte, and_self, Int.reduceAdd, Int.reduceMul, Int.reduceSub, eq_self, Int.add_zero, Int.zero_add, String.reduceEq, Nat.zero_le, Option.some.injEq, Sum.inl.injEq, Sum.inr.injEq, reduceCtorEq, Int.reduceToNat, Option.toList_some, Option.toList_none, ac_cs, ac_c10, ac_c11, ac_c12, ac_c13, ac_c14, ac_c15, ac_c16, ac_c17, sc_E, sh_E, sc_I, sh_I, sc_II, sh_II, sc_III, sh_III, sc_R, sh_R, sc_RI, sh_RI, sc_RII, sh_RII, sc_RIII, sh_RIII, sc_RIIII, sh_RIIII, sc_RR, sh_RR, sc_RRI, sh_RRI, sc_RRR, sh_RRR, sc_RIR, sh_RIR, sc_RIRI, sh_RIRI, sc_RRII, sh_RRII, sc_RRIII, sh_RRIII, sc_RIIRR, sh_RIIRR, sc_RIIIRR, sh_RIIIRR, sc_RIIR, sh_RIIR, sc_RRIIR, sh_RRIIR, sc_RRIIIR, sh_RRIIIR, sc_RRIIIIR, sh_RRIIIIR, sc_RRIR, sh_RRIR, gwG_0 ac, gwG_c0, gwG_c1, f1]
    have pos : 0 < (i : Int) + 1 := by omega
    have s0 := Int.emod_nonneg (xk (h 200 d 0) (2 * i + 1)) (show ((i : Int) + 1) ≠ 0 by omega)
    have s1 := Int.emod_lt_of_pos (xk (h 200 d 0) (2 * i + 1)) pos
    have g2 := xk_r hx (2 * i + 2)
    have ci : ((i + 1 : Nat) : Int) = (i : Int) + 1 := rfl
    have TS : gwT (h 200 d 0) (h 400 a 0) (h 10 (h 402 a 0)) (i + 1) = gws (gwT (h 200 d 0) (h 400 a 0) (h 10 (h 402 a 0)) i) (i + 1) (xk (h 200 d 0) (2 * i + 1) % ((i : Int) + 1)) (xk (h 200 d 0) (2 * i + 2)) := rfl
    refine ⟨fun q => ?_, fun q => ?_⟩
    · have TS2 : gwT (h 200 d 0) (h 400 a 0) (h 10 (h 402 a 0)) (i + 1) = gwT (h 200 d 0) (h 400 a 0) (h 10 (h 402 a 0)) i := by
        rw [TS, gws, if_pos]
        refine fnd_none fun j j0 j1 => ?_
        rw [ci] at j1 ⊢
        simp only [hp j j0 (by omega), ne_eq, not_true_eq_false, decide_false]
      refine ⟨(15 - (i + 1)) * 100, by omega, c, i + 1, some (.inl (xk (h 200 d 0) (2 * i + 1) % ((i : Int) + 1))), some (.inl (xk (h 200 d 0) (2 * i + 2))), some (.inl p), o8, o9, by omega, by omega, hc, ?_, rfl, ?_, rfl, rfl⟩
      · simp (disch := omega) only [wr_of]
        rw [TS2]
        rfl
      · simp only [gwG, TS2]
        rfl
    · simp (disch := omega) only [wr_of]
      refine ⟨⟨by omega, by omega⟩, ?_⟩
      rintro v h' ⟨rfl, rfl⟩
      have w0 := Int.emod_nonneg (xk (h 200 d 0) (2 * i + 1) % ((i : Int) + 1) + p) (show ((i : Int) + 1) ≠ 0 by omega)
      have w1 := Int.emod_lt_of_pos (xk (h 200 d 0) (2 * i + 1) % ((i : Int) + 1) + p) pos
      have r01 := gwT_r (D := h 10 (h 402 a 0)) hx ⟨f2, f3⟩ i ((xk (h 200 d 0) (2 * i + 1) % ((i : Int) + 1) + p) % ((i : Int) + 1))
      simp only [gwG_c0, gwG_c1, gwG_L, r01.1, r01.2, g2.1, ac_ent, ldI, ldR, stI, stR, inc, cI, cJ, cN, bop, oAdd, oSub, oMul, oAnd, oOr, oXor, oShl, oShr, oUshr, oRem, oDiv, oMx, oMn, oI2l, oLcmp, oDup, oDup2, oDupX1, oPop, bIc, bI0, bNul, getI, getR, putI, putZ, putR, aLen, aldI, aldZ, aldJ, aldR, astI, astZ, astJ, astR, nwO, nwA, gsT, oObj, oCpy, oCln, oCst, rtI, rtZ, rtR, rtV, thr, call, callH, ac_hsel, ac_as, ac_rs, ac_cs, ac_rcv, List.map_cons, List.map_nil, List.length_cons, List.length_nil, List.replicate, List.append_nil, List.cons_append, List.nil_append, List.getElem?_cons_zero, List.getElem?_cons_succ, List.set, Nat.zero_add, Nat.add_zero, Nat.le_refl, Nat.reduceAdd, Nat.reduceSub, Nat.reduceLeDiff, Int.reduceLT, Int.reduceLE, Int.reduceNeg, Int.reduceEq, true_and, and_true, true_or, or_true, not_true_eq_false, not_false_eq_true, false_implies, true_implies, implies_true, reduceIte, and_self, Int.reduceAdd, Int.reduceMul, Int.reduceSub, eq_self, Int.add_zero, Int.zero_add, String.reduceEq, Nat.zero_le, Option.some.injEq, Sum.inl.injEq, Sum.inr.injEq, reduceCtorEq, Int.reduceToNat, Option.toList_some, Option.toList_none, ac_cs, ac_c10, ac_c11, ac_c12, ac_c13, ac_c14, ac_c15, ac_c16, ac_c17, sc_E, sh_E, sc_I, sh_I, sc_II, sh_II, sc_III, sh_III, sc_R, sh_R, sc_RI, sh_RI, sc_RII, sh_RII, sc_RIII, sh_RIII, sc_RIIII, sh_RIIII, sc_RR, sh_RR, sc_RRI, sh_RRI, sc_RRR, sh_RRR, sc_RIR, sh_RIR, sc_RIRI, sh_RIRI, sc_RRII, sh_RRII, sc_RRIII, sh_RRIII, sc_RIIRR, sh_RIIRR, sc_RIIIRR, sh_RIIIRR, sc_RIIR, sh_RIIR, sc_RRIIR, sh_RRIIR, sc_RRIIIR, sh_RRIIIR, sc_RRIIIIR, sh_RRIIIIR, sc_RRIR, sh_RRIR]
      refine ⟨by omega, by omega, ?_⟩
      rintro v h' ⟨rfl, rfl⟩
      simp only [ac_ent, ldI, ldR, stI, stR, inc, cI, cJ, cN, bop, oAdd, oSub, oMul, oAnd, oOr, oXor, oShl, oShr, oUshr, oRem, oDiv, oMx, oMn, oI2l, oLcmp, oDup, oDup2, oDupX1, oPop, bIc, bI0, bNul, getI, getR, putI, putZ, putR, aLen, aldI, aldZ, aldJ, aldR, astI, astZ, astJ, astR, nwO, nwA, gsT, oObj, oCpy, oCln, oCst, rtI, rtZ, rtR, rtV, thr, call, callH, ac_hsel, ac_as, ac_rs, ac_cs, ac_rcv, List.map_cons, List.map_nil, List.length_cons, List.length_nil, List.replicate, List.append_nil, List.cons_append, List.nil_append, List.getElem?_cons_zero, List.getElem?_cons_succ, List.set, Nat.zero_add, Nat.add_zero, Nat.le_refl, Nat.reduceAdd, Nat.reduceSub, Nat.reduceLeDiff, Int.reduceLT, Int.reduceLE, Int.reduceNeg, Int.reduceEq, true_and, and_true, true_or, or_true, not_true_eq_false, not_false_eq_true, false_implies, true_implies, implies_true, reduceIte, and_self, Int.reduceAdd, Int.reduceMul, Int.reduceSub, eq_self, Int.add_zero, Int.zero_add, String.reduceEq, Nat.zero_le, Option.some.injEq, Sum.inl.injEq, Sum.inr.injEq, reduceCtorEq, Int.reduceToNat, Option.toList_some, Option.toList_none, ac_cs, ac_c10, ac_c11, ac_c12, ac_c13, ac_c14, ac_c15, ac_c16, ac_c17, sc_E, sh_E, sc_I, sh_I, sc_II, sh_II, sc_III, sh_III, sc_R, sh_R, sc_RI, sh_RI, sc_RII, sh_RII, sc_RIII, sh_RIII, sc_RIIII, sh_RIIII, sc_RR, sh_RR, sc_RRI, sh_RRI, sc_RRR, sh_RRR, sc_RIR, sh_RIR, sc_RIRI, sh_RIRI, sc_RRII, sh_RRII, sc_RRIII, sh_RRIII, sc_RIIRR, sh_RIIRR, sc_RIIIRR, sh_RIIIRR, sc_RIIR, sh_RIIR, sc_RRIIR, sh_RRIIR, sc_RRIIIR, sh_RRIIIR, sc_RRIIIIR, sh_RRIIIIR, sc_RRIR, sh_RRIR]
      refine ⟨fun e => ?_, fun e => ?_⟩
      · refine ⟨((15 - i) * 100 - 1 - p - 1).toNat, by omega, c, i, p + 1, _, _, by omega, by omega, hc, by omega, by omega, fun j j0 j1 => ?_, rfl, rfl, rfl, rfl, rfl⟩
        by_cases e1 : j = p
        · subst e1; exact e
        · exact hp j j0 (by omega)
      · rintro v h' ⟨rfl, rfl⟩
        obtain ⟨d0, d1, d2, d3⟩ := d2n_ok e g2.1
        have gi : gwi (gwT (h 200 d 0) (h 400 a 0) (h 10 (h 402 a 0)) i).1 (gwT (h 200 d 0) (h 400 a 0) (h 10 (h 402 a 0)) i).2.1 (xk (h 200 d 0) (2 * i + 1) % ((i : Int) + 1)) (xk (h 200 d 0) (2 * i + 2)) (i + 1) = p := by
          refine fnd_some p0 (by rw [ci]; omega) ?_ fun j j0 j1 => ?_
          · rw [ci]; exact decide_eq_true e
          · rw [ci]; simp only [hp j j0 j1, ne_eq, not_true_eq_false, decide_false]
        have TS3 := TS
        rw [gws, gi, if_neg (by omega), ci] at TS3
        simp only [up_k, ast_k, up_kf, ast_kf, ne_eq, Nat.reduceEqDiff, not_false_eq_true, gwG_c0, gwG_c1, gwG_0 ac, gwG_0 Dc, gwG_1 Dc, gwG_k, up_self, f1, f4, f5, r01.1, r01.2, d0, d1, pos, ac_ent, ldI, ldR, stI, stR, inc, cI, cJ, cN, bop, oAdd, oSub, oMul, oAnd, oOr, oXor, oShl, oShr, oUshr, oRem, oDiv, oMx, oMn, oI2l, oLcmp, oDup, oDup2, oDupX1, oPop, bIc, bI0, bNul, getI, getR, putI, putZ, putR, aLen, aldI, aldZ, aldJ, aldR, astI, astZ, astJ, astR, nwO, nwA, gsT, oObj, oCpy, oCln, oCst, rtI, rtZ, rtR, rtV, thr, call, callH, ac_hsel, ac_as, ac_rs, ac_cs, ac_rcv, List.map_cons, List.map_nil, List.length_cons, List.length_nil, List.replicate, List.append_nil, List.cons_append, List.nil_append, List.getElem?_cons_zero, List.getElem?_cons_succ, List.set, Nat.zero_add, Nat.add_zero, Nat.le_refl, Nat.reduceAdd, Nat.reduceSub, Nat.reduceLeDiff, Int.reduceLT, Int.reduceLE, Int.reduceNeg, Int.reduceEq, true_and, and_true, true_or, or_true, not_true_eq_false, not_false_eq_true, false_implies, true_implies, implies_true, reduceIte, and_self, Int.reduceAdd, Int.reduceMul, Int.reduceSub, eq_self, Int.add_zero, Int.zero_add, String.reduceEq, Nat.zero_le, Option.some.injEq, Sum.inl.injEq, Sum.inr.injEq, reduceCtorEq, Int.reduceToNat, Option.toList_some, Option.toList_none, ac_cs, ac_c10, ac_c11, ac_c12, ac_c13, ac_c14, ac_c15, ac_c16, ac_c17, sc_E, sh_E, sc_I, sh_I, sc_II, sh_II, sc_III, sh_III, sc_R, sh_R, sc_RI, sh_RI, sc_RII, sh_RII, sc_RIII, sh_RIII, sc_RIIII, sh_RIIII, sc_RR, sh_RR, sc_RRI, sh_RRI, sc_RRR, sh_RRR, sc_RIR, sh_RIR, sc_RIRI, sh_RIRI, sc_RRII, sh_RRII, sc_RRIII, sh_RRIII, sc_RIIRR, sh_RIIRR, sc_RIIIRR, sh_RIIIRR, sc_RIIR, sh_RIIR, sc_RRIIR, sh_RRIIR, sc_RRIIIR, sh_RRIIIR, sc_RRIIIIR, sh_RRIIIIR, sc_RRIR, sh_RRIR]
        refine ⟨⟨by omega, by omega⟩, ⟨by omega, by omega⟩, ?_⟩
        rintro v h' ⟨rfl, rfl⟩
        refine ⟨(15 - (i + 1)) * 100, by omega, c, i + 1, _, _, _, _, _, by omega, by omega, hc, by rw [TS3]; rfl, rfl, ?_, rfl, rfl⟩
        rw [up10, gwG_L]
        simp only [up_k, ast_k, up_kf, ast_kf, ne_eq, Nat.reduceEqDiff, not_false_eq_true, ast_af Dc, gwG_D Dc]
        exact gwG_step Dc (by rw [TS3]) (by rw [TS3])
  | j + 3, hI => exact hI.elim
