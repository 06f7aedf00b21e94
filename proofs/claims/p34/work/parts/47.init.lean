/-! ===== a new object ===== -/
theorem pw_inj : ∀ (a b c d : Nat), 2 ^ a * (2 * b + 1) = 2 ^ c * (2 * d + 1) → a = c ∧ b = d
  | 0, b, 0, d, h => by omega
  | 0, b, c + 1, d, h => by
    exfalso
    have : 2 ^ (c + 1) * (2 * d + 1) = 2 * (2 ^ c * (2 * d + 1)) := by rw [Nat.pow_succ, Nat.mul_comm (2 ^ c) 2, Nat.mul_assoc]
    rw [this] at h
    generalize 2 ^ c * (2 * d + 1) = X at h
    omega
  | a + 1, b, 0, d, h => by
    exfalso
    have : 2 ^ (a + 1) * (2 * b + 1) = 2 * (2 ^ a * (2 * b + 1)) := by rw [Nat.pow_succ, Nat.mul_comm (2 ^ a) 2, Nat.mul_assoc]
    rw [this] at h
    generalize 2 ^ a * (2 * b + 1) = X at h
    omega
  | a + 1, b, c + 1, d, h => by
    have h1 : 2 ^ (a + 1) * (2 * b + 1) = 2 * (2 ^ a * (2 * b + 1)) := by rw [Nat.pow_succ, Nat.mul_comm (2 ^ a) 2, Nat.mul_assoc]
    have h2 : 2 ^ (c + 1) * (2 * d + 1) = 2 * (2 ^ c * (2 * d + 1)) := by rw [Nat.pow_succ, Nat.mul_comm (2 ^ c) 2, Nat.mul_assoc]
    rw [h1, h2] at h
    have := pw_inj a b c d (by omega)
    omega
def zN (i : Int) : Nat := if 0 ≤ i then (2 * i).toNat else (-2 * i - 1).toNat
theorem zN_inj {i j : Int} (h : zN i = zN j) : i = j := by
  unfold zN at h
  split at h <;> split at h <;> omega
def dead (t : Nat) (i j : Int) : Int := -((2 ^ t * (2 * (2 ^ (zN i) * (2 * zN j + 1)) + 1) : Nat) : Int) - 1
theorem dead_neg (t : Nat) (i j : Int) : dead t i j < 0 := by unfold dead; omega
theorem dead_inj {t t' : Nat} {i j i' j' : Int} (h : dead t i j = dead t' i' j') : t = t' ∧ i = i' ∧ j = j' := by
  unfold dead at h
  have h1 : 2 ^ t * (2 * (2 ^ (zN i) * (2 * zN j + 1)) + 1) = 2 ^ t' * (2 * (2 ^ (zN i') * (2 * zN j' + 1)) + 1) := by omega
  obtain ⟨a, b⟩ := pw_inj _ _ _ _ h1
  obtain ⟨c, d⟩ := pw_inj _ _ _ _ b
  exact ⟨a, zN_inj c, zN_inj d⟩
def ad0 (v : Nat → Int) : sS := fun t i j => if t < 10 ∧ i = 0 ∧ j = 0 then v t else dead t i j
theorem ad0_inj {v : Nat → Int} (hv : ∀ t t', t < 10 → t' < 10 → v t = v t' → t = t') (hp : ∀ t, t < 10 → 0 < v t) : ∀ t i j t' i' j', ad0 v t i j = ad0 v t' i' j' → t = t' ∧ i = i' ∧ j = j' := by
  intro t i j t' i' j' e
  unfold ad0 at e
  split at e
  · rename_i c
    split at e
    · rename_i c'
      exact ⟨hv _ _ c.1 c'.1 e, by omega, by omega⟩
    · have := hp t c.1
      have := dead_neg t' i' j'
      omega
  · split at e
    · rename_i c'
      have := hp t' c'.1
      have := dead_neg t i j
      omega
    · exact dead_inj e
def v0 (x B b1 b2 b3 d e f P m : Int) : Nat → Int
  | 0 => x | 1 => B | 2 => b1 | 3 => b2 | 4 => b3 | 5 => d | 6 => e | 7 => f | 8 => P | _ => m
/-- an array made and put into x -/
theorem st_arr {g : ac_H} {x a K L : Int} {k : Nat} (ha : ac_new g a) (hk : 2 ≤ k) (hx : g 0 x 0 ≠ 0) (hK : K ≠ 0) : ∃ g', g' = up (up (up g 0 a 0 K) 1 a 0 L) k x 0 a ∧ x ≠ a ∧ g' 0 a 0 = K ∧ g' 1 a 0 = L ∧ g' k x 0 = a ∧ (∀ k' y z, g 0 y 0 ≠ 0 → ¬ (k' = k ∧ y = x) → g' k' y z = g k' y z) ∧ (∀ k' y z, y ≠ a → ¬ (k' = k ∧ y = x) → g' k' y z = g k' y z) := by
  have xa : x ≠ a := new_ne ha hx
  have o : ∀ k' y z, y ≠ a → ¬ (k' = k ∧ y = x) → up (up (up g 0 a 0 K) 1 a 0 L) k x 0 a k' y z = g k' y z := fun k' y z e1 e2 => by
    rw [up_ne (fun q => e2 ⟨q.1, q.2.1⟩), up_a e1, up_a e1]
  refine ⟨_, rfl, xa, ?_, ?_, up_self .., fun k' y z hy e => o k' y z (new_ne ha hy) e, o⟩
  · rw [up_k (by omega), up_k (by omega), up_self]
  · rw [up_k (by omega), up_self]
def spX8_init : ac_Sp := sc_R (fun x h => 0 < x ∧ h 0 x 0 = 28 ∧ ∀ k, k ≠ 0 → h k x 0 = 0) (fun x h v h' => v = none ∧ ∃ ad, RC h' x ad (fun _ _ _ => 0) ∧ (∀ (k : Nat) (y z : Int), h 0 y 0 ≠ 0 → y ≠ x → h' k y z = h k y z) ∧ ∀ t i j, ad t i j = x ∨ ad t i j < 0 ∨ h 0 (ad t i j) 0 = 0) (fun _ _ _ _ => False)
theorem hvX8_init : hvp spX8_init := fun As h hp => by obtain ⟨x, rfl, hp⟩ := sh_R_inv hp; exact ⟨_, _, rfl, hp.1⟩
set_option maxRecDepth 100000 in
set_option maxHeartbeats 4000000 in
theorem mtX8_init {G : ac_G} {l : Launch} : ac_Met G l yX8_init mX8_init 2 40 9 196 spX8_init := by
  refine ac_meth1 (pcs := pcX8_init) (B := fun P X J j => vcX8_init spX5_init spX6_init P X J j) (by decide) rfl rfl rfl (fun P X J hJ j => sdX8_init mtX5_init mtX6_init hvX5_init hvX6_init P X J hJ j) (hp_R (by decide)) fun As h hp => ?_
  obtain ⟨x, rfl, hp⟩ := sh_R_inv hp
  simp only [spX8_init, vcX8_init, mX8_init, spX5_init, spX6_init, sc_R, sh_R, ac_ent, ldI, ldR, stI, stR, inc, cI, cJ, cN, bop, oAdd, oSub, oMul, oAnd, oOr, oXor, oShl, oShr, oUshr, oRem, oDiv, oMx, oMn, oI2l, oLcmp, oDup, oDup2, oDupX1, oPop, bIc, bI0, bNul, getI, getR, putI, putZ, putR, aLen, aldI, aldZ, aldJ, aldR, astI, astZ, astJ, astR, nwO, nwA, gsT, oObj, oCpy, oCln, oCst, rtI, rtZ, rtR, rtV, thr, call, callH, ac_hsel, ac_as, ac_rs, ac_cs, ac_rcv, List.map_cons, List.map_nil, List.length_cons, List.length_nil, List.replicate, List.append_nil, List.cons_append, List.nil_append, List.getElem?_cons_zero, List.getElem?_cons_succ, List.set, Nat.zero_add, Nat.add_zero, Nat.le_refl, Nat.reduceAdd, Nat.reduceSub, Nat.reduceLeDiff, Int.reduceLT, Int.reduceLE, Int.reduceNeg, Int.reduceEq, true_and, and_true, true_or, or_true, not_true_eq_false, not_false_eq_true, false_implies, true_implies, implies_true, reduceIte, and_self, Int.reduceAdd, Int.reduceMul, Int.reduceSub, eq_self, Int.add_zero, Int.zero_add, String.reduceEq, Nat.zero_le, Option.some.injEq, Sum.inl.injEq, Sum.inr.injEq, reduceCtorEq, Int.reduceToNat, Option.toList_some, Option.toList_none, ac_cs, ac_c10, ac_c11, ac_c12, ac_c13, ac_c14, ac_c15, ac_c16, ac_c17, sc_E, sh_E, sc_I, sh_I, sc_II, sh_II, sc_III, sh_III, sc_R, sh_R, sc_RI, sh_RI, sc_RII, sh_RII, sc_RIII, sh_RIII, sc_RIIII, sh_RIIII, sc_RR, sh_RR, sc_RRI, sh_RRI, sc_RRR, sh_RRR, sc_RIR, sh_RIR, sc_RIRI, sh_RIRI, sc_RRII, sh_RRII, sc_RRIII, sh_RRIII, sc_RIIRR, sh_RIIRR, sc_RIIIRR, sh_RIIIRR, sc_RIIR, sh_RIIR, sc_RRIIR, sh_RRIIR, sc_RRIIIR, sh_RRIIIR, sc_RRIIIIR, sh_RRIIIIR, sc_RRIR, sh_RRIR]
  obtain ⟨x0, x1, x2⟩ := hp
  refine ⟨x0, fun B nB => ⟨⟨nB.1, up_self ..⟩, ?_⟩⟩
  rintro v h1 ⟨rfl, b1, b2, b3, n1, n2, n3, d12, d13, d23, hh⟩
  obtain ⟨p1, n1⟩ := new_up n1 (by decide)
  obtain ⟨p2, n2⟩ := new_up n2 (by decide)
  obtain ⟨p3, n3⟩ := new_up n3 (by decide)
  have hx0 : h 0 x 0 ≠ 0 := by rw [x1]; decide
  have xB : x ≠ B := new_ne nB hx0
  have x1' : x ≠ b1 := new_ne n1 hx0
  have x2' : x ≠ b2 := new_ne n2 hx0
  have x3' : x ≠ b3 := new_ne n3 hx0
  have q1 : h1 0 B 0 = 25 := by rw [hh]; simp [up, Ne.symm p1, Ne.symm p2, Ne.symm p3]
  have q2 : h1 600 B 0 = b1 := by rw [hh]; simp [up]
  have q3 : h1 602 B 0 = b2 := by rw [hh]; simp [up]
  have q4 : h1 604 B 0 = b3 := by rw [hh]; simp [up]
  have q5 : h1 601 B 0 = 0 := by rw [hh]; simp [up, nB.2]
  have q6 : h1 0 b1 0 = 16 ∧ h1 1 b1 0 = 10 := by rw [hh]; simp [up, d12, d13, d23, p1]
  have q7 : h1 0 b2 0 = 10 ∧ h1 1 b2 0 = 10 := by rw [hh]; simp [up, d12, d13, d23, p2]
  have q8 : h1 0 b3 0 = 10 ∧ h1 1 b3 0 = 6 := by rw [hh]; simp [up]
  have q9 : ∀ k y z, y ≠ B → y ≠ b1 → y ≠ b2 → y ≠ b3 → h1 k y z = h k y z := fun k y z e1 e2 e3 e4 => by rw [hh]; simp [up, e1, e2, e3, e4]
  clear hh
  have xw : ∀ k z, h1 k x z = h k x z := fun k z => q9 k x z xB x1' x2' x3'
  simp only [xw 0 0, x1, ac_ent, ldI, ldR, stI, stR, inc, cI, cJ, cN, bop, oAdd, oSub, oMul, oAnd, oOr, oXor, oShl, oShr, oUshr, oRem, oDiv, oMx, oMn, oI2l, oLcmp, oDup, oDup2, oDupX1, oPop, bIc, bI0, bNul, getI, getR, putI, putZ, putR, aLen, aldI, aldZ, aldJ, aldR, astI, astZ, astJ, astR, nwO, nwA, gsT, oObj, oCpy, oCln, oCst, rtI, rtZ, rtR, rtV, thr, call, callH, ac_hsel, ac_as, ac_rs, ac_cs, ac_rcv, List.map_cons, List.map_nil, List.length_cons, List.length_nil, List.replicate, List.append_nil, List.cons_append, List.nil_append, List.getElem?_cons_zero, List.getElem?_cons_succ, List.set, Nat.zero_add, Nat.add_zero, Nat.le_refl, Nat.reduceAdd, Nat.reduceSub, Nat.reduceLeDiff, Int.reduceLT, Int.reduceLE, Int.reduceNeg, Int.reduceEq, true_and, and_true, true_or, or_true, not_true_eq_false, not_false_eq_true, false_implies, true_implies, implies_true, reduceIte, and_self, Int.reduceAdd, Int.reduceMul, Int.reduceSub, eq_self, Int.add_zero, Int.zero_add, String.reduceEq, Nat.zero_le, Option.some.injEq, Sum.inl.injEq, Sum.inr.injEq, reduceCtorEq, Int.reduceToNat, Option.toList_some, Option.toList_none, ac_cs, ac_c10, ac_c11, ac_c12, ac_c13, ac_c14, ac_c15, ac_c16, ac_c17, sc_E, sh_E, sc_I, sh_I, sc_II, sh_II, sc_III, sh_III, sc_R, sh_R, sc_RI, sh_RI, sc_RII, sh_RII, sc_RIII, sh_RIII, sc_RIIII, sh_RIIII, sc_RR, sh_RR, sc_RRI, sh_RRI, sc_RRR, sh_RRR, sc_RIR, sh_RIR, sc_RIRI, sh_RIRI, sc_RRII, sh_RRII, sc_RRIII, sh_RRIII, sc_RIIRR, sh_RIIRR, sc_RIIIRR, sh_RIIIRR, sc_RIIR, sh_RIIR, sc_RRIIR, sh_RRIIR, sc_RRIIIR, sh_RRIIIR, sc_RRIIIIR, sh_RRIIIIR, sc_RRIR, sh_RRIR]
  have g1x : ∀ k y z, ¬ (k = 900 ∧ y = x) → up h1 900 x 0 B k y z = h1 k y z := fun k y z e => up_ne (fun q => e ⟨q.1, q.2.1⟩)
  have g1p : up h1 900 x 0 B 900 x 0 = B := up_self ..
  generalize up h1 900 x 0 B = g1 at g1x g1p ⊢
  intro d nd
  have y1 : g1 0 x 0 ≠ 0 := by rw [g1x 0 x 0 (by omega), xw, x1]; decide
  have yB : g1 0 B 0 ≠ 0 := by rw [g1x 0 B 0 (by omega), q1]; decide
  have yb1 : g1 0 b1 0 ≠ 0 := by rw [g1x 0 b1 0 (by omega), q6.1]; decide
  have yb2 : g1 0 b2 0 ≠ 0 := by rw [g1x 0 b2 0 (by omega), q7.1]; decide
  have yb3 : g1 0 b3 0 ≠ 0 := by rw [g1x 0 b3 0 (by omega), q8.1]; decide
  have dB := new_ne nd yB
  have db1 := new_ne nd yb1
  have db2 := new_ne nd yb2
  have db3 := new_ne nd yb3
  obtain ⟨g2, e2, xd, g2a, g2b, g2c, g2o, g2p⟩ := st_arr (k := 904) (x := x) (K := 10) (L := 60) nd (by omega) y1 (by decide)
  have z1 : up (up g1 0 d 0 10) 1 d 0 60 0 x 0 = 28 := by rw [up_k (by decide), up_a xd, g1x 0 x 0 (by omega), xw, x1]
  rw [← e2]
  refine ⟨z1, fun e ne => ?_⟩
  have y2 : ∀ y, g1 0 y 0 ≠ 0 → g2 0 y 0 ≠ 0 := fun y hy => by rw [g2o 0 y 0 hy (by omega)]; exact hy
  have g2x : g2 0 x 0 = 28 := by rw [g2o 0 x 0 y1 (by omega), g1x 0 x 0 (by omega), xw, x1]
  have yd : g2 0 d 0 ≠ 0 := by rw [g2a]; decide
  have eB := new_ne ne (y2 _ yB)
  have eb1 := new_ne ne (y2 _ yb1)
  have eb2 := new_ne ne (y2 _ yb2)
  have eb3 := new_ne ne (y2 _ yb3)
  have ed := new_ne ne yd
  obtain ⟨g3, e3, xe, g3a, g3b, g3c, g3o, g3p⟩ := st_arr (k := 906) (x := x) (K := 14) (L := 20) ne (by omega) (y2 _ y1) (by decide)
  have z2 : up (up g2 0 e 0 14) 1 e 0 20 0 x 0 = 28 := by rw [up_k (by decide), up_a xe, g2x]
  rw [← e3]
  refine ⟨z2, fun f nf => ?_⟩
  have y3 : ∀ y, g2 0 y 0 ≠ 0 → g3 0 y 0 ≠ 0 := fun y hy => by rw [g3o 0 y 0 hy (by omega)]; exact hy
  have g3x : g3 0 x 0 = 28 := by rw [g3o 0 x 0 (y2 _ y1) (by omega), g2x]
  have ye : g3 0 e 0 ≠ 0 := by rw [g3a]; decide
  have fB := new_ne nf (y3 _ (y2 _ yB))
  have fb1 := new_ne nf (y3 _ (y2 _ yb1))
  have fb2 := new_ne nf (y3 _ (y2 _ yb2))
  have fb3 := new_ne nf (y3 _ (y2 _ yb3))
  have fd := new_ne nf (y3 _ yd)
  have fe := new_ne nf ye
  obtain ⟨g4, e4, xf, g4a, g4b, g4c, g4o, g4p⟩ := st_arr (k := 908) (x := x) (K := 17) (L := 60) nf (by omega) (y3 _ (y2 _ y1)) (by decide)
  have z3 : up (up g3 0 f 0 17) 1 f 0 60 0 x 0 = 28 := by rw [up_k (by decide), up_a xf, g3x]
  rw [← e4]
  refine ⟨z3, fun P nP => ?_⟩
  have y4 : ∀ y, g3 0 y 0 ≠ 0 → g4 0 y 0 ≠ 0 := fun y hy => by rw [g4o 0 y 0 hy (by omega)]; exact hy
  have g4x : g4 0 x 0 = 28 := by rw [g4o 0 x 0 (y3 _ (y2 _ y1)) (by omega), g3x]
  have yf : g4 0 f 0 ≠ 0 := by rw [g4a]; decide
  have PB := new_ne nP (y4 _ (y3 _ (y2 _ yB)))
  have Pb1 := new_ne nP (y4 _ (y3 _ (y2 _ yb1)))
  have Pb2 := new_ne nP (y4 _ (y3 _ (y2 _ yb2)))
  have Pb3 := new_ne nP (y4 _ (y3 _ (y2 _ yb3)))
  have Pd := new_ne nP (y4 _ (y3 _ yd))
  have Pe := new_ne nP (y4 _ ye)
  have Pf := new_ne nP yf
  have xP := new_ne nP (y4 _ (y3 _ (y2 _ y1)))
  refine ⟨⟨nP.1, up_self ..⟩, ?_⟩
  rintro v h2 ⟨rfl, m, nm, hm⟩
  obtain ⟨mP, nm⟩ := new_up nm (by decide)
  have mB := new_ne nm (y4 _ (y3 _ (y2 _ yB)))
  have mb1 := new_ne nm (y4 _ (y3 _ (y2 _ yb1)))
  have mb2 := new_ne nm (y4 _ (y3 _ (y2 _ yb2)))
  have mb3 := new_ne nm (y4 _ (y3 _ (y2 _ yb3)))
  have md := new_ne nm (y4 _ (y3 _ yd))
  have me := new_ne nm (y4 _ ye)
  have mf := new_ne nm yf
  have xm := new_ne nm (y4 _ (y3 _ (y2 _ y1)))
  have Pm : P ≠ m := fun q => mP q.symm
  have h2P : h2 0 P 0 = 26 ∧ h2 700 P 0 = m := by rw [hm]; simp [up, Pm]
  have h2m : h2 0 m 0 = 10 ∧ h2 1 m 0 = 16 := by rw [hm]; simp [up]
  have h2o : ∀ k y z, y ≠ P → y ≠ m → h2 k y z = g4 k y z := fun k y z a b => by rw [hm]; simp [up, a, b]
  clear hm
  have h2x : h2 0 x 0 = 28 := by rw [h2o 0 x 0 xP xm, g4x]
  simp only [h2x, ac_ent, ldI, ldR, stI, stR, inc, cI, cJ, cN, bop, oAdd, oSub, oMul, oAnd, oOr, oXor, oShl, oShr, oUshr, oRem, oDiv, oMx, oMn, oI2l, oLcmp, oDup, oDup2, oDupX1, oPop, bIc, bI0, bNul, getI, getR, putI, putZ, putR, aLen, aldI, aldZ, aldJ, aldR, astI, astZ, astJ, astR, nwO, nwA, gsT, oObj, oCpy, oCln, oCst, rtI, rtZ, rtR, rtV, thr, call, callH, ac_hsel, ac_as, ac_rs, ac_cs, ac_rcv, List.map_cons, List.map_nil, List.length_cons, List.length_nil, List.replicate, List.append_nil, List.cons_append, List.nil_append, List.getElem?_cons_zero, List.getElem?_cons_succ, List.set, Nat.zero_add, Nat.add_zero, Nat.le_refl, Nat.reduceAdd, Nat.reduceSub, Nat.reduceLeDiff, Int.reduceLT, Int.reduceLE, Int.reduceNeg, Int.reduceEq, true_and, and_true, true_or, or_true, not_true_eq_false, not_false_eq_true, false_implies, true_implies, implies_true, reduceIte, and_self, Int.reduceAdd, Int.reduceMul, Int.reduceSub, eq_self, Int.add_zero, Int.zero_add, String.reduceEq, Nat.zero_le, Option.some.injEq, Sum.inl.injEq, Sum.inr.injEq, reduceCtorEq, Int.reduceToNat, Option.toList_some, Option.toList_none, ac_cs, ac_c10, ac_c11, ac_c12, ac_c13, ac_c14, ac_c15, ac_c16, ac_c17, sc_E, sh_E, sc_I, sh_I, sc_II, sh_II, sc_III, sh_III, sc_R, sh_R, sc_RI, sh_RI, sc_RII, sh_RII, sc_RIII, sh_RIII, sc_RIIII, sh_RIIII, sc_RR, sh_RR, sc_RRI, sh_RRI, sc_RRR, sh_RRR, sc_RIR, sh_RIR, sc_RIRI, sh_RIRI, sc_RRII, sh_RRII, sc_RRIII, sh_RRIII, sc_RIIRR, sh_RIIRR, sc_RIIIRR, sh_RIIIRR, sc_RIIR, sh_RIIR, sc_RRIIR, sh_RRIIR, sc_RRIIIR, sh_RRIIIR, sc_RRIIIIR, sh_RRIIIIR, sc_RRIR, sh_RRIR]
  generalize hF : up h2 910 x 0 P = F
  have Fo : ∀ k y z, ¬ (k = 910 ∧ y = x) → F k y z = h2 k y z := fun k y z a => by rw [← hF]; exact up_ne (fun q => a ⟨q.1, q.2.1⟩)
  have Fp : F 910 x 0 = P := by rw [← hF]; exact up_self ..
  clear hF
  -- from g1 on
  have o1 : ∀ k y z, g1 0 y 0 ≠ 0 → y ≠ x → F k y z = g1 k y z := fun k y z hy yx => by
    rw [Fo k y z (fun q => yx q.2), h2o k y z (new_ne nP (y4 _ (y3 _ (y2 _ hy)))) (new_ne nm (y4 _ (y3 _ (y2 _ hy)))), g4o k y z (y3 _ (y2 _ hy)) (fun q => yx q.2), g3o k y z (y2 _ hy) (fun q => yx q.2), g2o k y z hy (fun q => yx q.2)]
  have xk : ∀ k z, k ≠ 900 → k ≠ 904 → k ≠ 906 → k ≠ 908 → k ≠ 910 → F k x z = h k x z := fun k z a1 a2 a3 a4 a5 => by
    rw [Fo k x z (by omega), h2o k x z xP xm, g4p k x z xf (by omega), g3p k x z xe (by omega), g2p k x z xd (by omega), g1x k x z (by omega), xw]
  have F900 : F 900 x 0 = B := by
    rw [Fo _ x 0 (by omega), h2o _ x 0 xP xm, g4p _ x 0 xf (by omega), g3p _ x 0 xe (by omega), g2p _ x 0 xd (by omega), g1p]
  have F904 : F 904 x 0 = d := by
    rw [Fo _ x 0 (by omega), h2o _ x 0 xP xm, g4p _ x 0 xf (by omega), g3p _ x 0 xe (by omega), g2c]
  have F906 : F 906 x 0 = e := by
    rw [Fo _ x 0 (by omega), h2o _ x 0 xP xm, g4p _ x 0 xf (by omega), g3c]
  have F908 : F 908 x 0 = f := by
    rw [Fo _ x 0 (by omega), h2o _ x 0 xP xm, g4c]
  have oB : ∀ k z, F k B z = h1 k B z := fun k z => by rw [o1 k B z yB (Ne.symm xB), g1x k B z (fun q => xB q.2.symm)]
  have ob1 : ∀ k z, F k b1 z = h1 k b1 z := fun k z => by rw [o1 k b1 z yb1 (Ne.symm x1'), g1x k b1 z (fun q => x1' q.2.symm)]
  have ob2 : ∀ k z, F k b2 z = h1 k b2 z := fun k z => by rw [o1 k b2 z yb2 (Ne.symm x2'), g1x k b2 z (fun q => x2' q.2.symm)]
  have ob3 : ∀ k z, F k b3 z = h1 k b3 z := fun k z => by rw [o1 k b3 z yb3 (Ne.symm x3'), g1x k b3 z (fun q => x3' q.2.symm)]
  have od : ∀ k z, F k d z = g2 k d z := fun k z => by rw [Fo k d z (fun q => xd q.2.symm), h2o k d z Pd md, g4o k d z (y3 _ yd) (fun q => xd q.2.symm), g3o k d z yd (fun q => xd q.2.symm)]
  have oe : ∀ k z, F k e z = g3 k e z := fun k z => by rw [Fo k e z (fun q => xe q.2.symm), h2o k e z Pe me, g4o k e z ye (fun q => xe q.2.symm)]
  have of : ∀ k z, F k f z = g4 k f z := fun k z => by rw [Fo k f z (fun q => xf q.2.symm), h2o k f z Pf mf]
  have oP : ∀ k z, F k P z = h2 k P z := fun k z => Fo k P z (fun q => xP q.2.symm)
  have om : ∀ k z, F k m z = h2 k m z := fun k z => Fo k m z (fun q => xm q.2.symm)
  have hv : ∀ t t', t < 10 → t' < 10 → v0 x B b1 b2 b3 d e f P m t = v0 x B b1 b2 b3 d e f P m t' → t = t' := by
    intro t t' ht ht' q
    have c : t = 0 ∨ t = 1 ∨ t = 2 ∨ t = 3 ∨ t = 4 ∨ t = 5 ∨ t = 6 ∨ t = 7 ∨ t = 8 ∨ t = 9 := by omega
    have c' : t' = 0 ∨ t' = 1 ∨ t' = 2 ∨ t' = 3 ∨ t' = 4 ∨ t' = 5 ∨ t' = 6 ∨ t' = 7 ∨ t' = 8 ∨ t' = 9 := by omega
    rcases c with rfl | rfl | rfl | rfl | rfl | rfl | rfl | rfl | rfl | rfl <;> rcases c' with rfl | rfl | rfl | rfl | rfl | rfl | rfl | rfl | rfl | rfl <;> simp only [v0] at q <;> first | rfl | exact absurd q (by assumption) | exact absurd q.symm (by assumption)
  have hfr : ∀ y, g1 0 y 0 = 0 → h 0 y 0 = 0 := fun y hy => by
    by_cases q : h 0 y 0 = 0
    · exact q
    · have c1 := new_ne nB q
      have c2 := new_ne n1 q
      have c3 := new_ne n2 q
      have c4 := new_ne n3 q
      rw [g1x 0 y 0 (by omega), q9 0 y 0 c1 c2 c3 c4] at hy
      exact absurd hy q
  have fr2 : ∀ y, g2 0 y 0 = 0 → g1 0 y 0 = 0 := fun y hy => by
    by_cases q : g1 0 y 0 = 0
    · exact q
    · exact absurd hy (y2 y q)
  have fr3 : ∀ y, g3 0 y 0 = 0 → g2 0 y 0 = 0 := fun y hy => by
    by_cases q : g2 0 y 0 = 0
    · exact q
    · exact absurd hy (y3 y q)
  have fr4 : ∀ y, g4 0 y 0 = 0 → g3 0 y 0 = 0 := fun y hy => by
    by_cases q : g3 0 y 0 = 0
    · exact q
    · exact absurd hy (y4 y q)
  have cs : ∀ t i j, ad0 (v0 x B b1 b2 b3 d e f P m) t i j = x ∨ (0 < ad0 (v0 x B b1 b2 b3 d e f P m) t i j ∧ h 0 (ad0 (v0 x B b1 b2 b3 d e f P m) t i j) 0 = 0 ∧ F 0 (ad0 (v0 x B b1 b2 b3 d e f P m) t i j) 0 ≠ 0) ∨ ad0 (v0 x B b1 b2 b3 d e f P m) t i j < 0 := by
    intro t i j
    unfold ad0
    split
    · rename_i c
      have c' : t = 0 ∨ t = 1 ∨ t = 2 ∨ t = 3 ∨ t = 4 ∨ t = 5 ∨ t = 6 ∨ t = 7 ∨ t = 8 ∨ t = 9 := by omega
      rcases c' with rfl | rfl | rfl | rfl | rfl | rfl | rfl | rfl | rfl | rfl
      · exact Or.inl rfl
      · exact Or.inr (Or.inl ⟨nB.1, nB.2 0 0, by show F 0 B 0 ≠ 0; rw [oB, q1]; decide⟩)
      · exact Or.inr (Or.inl ⟨n1.1, n1.2 0 0, by show F 0 b1 0 ≠ 0; rw [ob1, q6.1]; decide⟩)
      · exact Or.inr (Or.inl ⟨n2.1, n2.2 0 0, by show F 0 b2 0 ≠ 0; rw [ob2, q7.1]; decide⟩)
      · exact Or.inr (Or.inl ⟨n3.1, n3.2 0 0, by show F 0 b3 0 ≠ 0; rw [ob3, q8.1]; decide⟩)
      · exact Or.inr (Or.inl ⟨nd.1, hfr _ (nd.2 0 0), by show F 0 d 0 ≠ 0; rw [od, g2a]; decide⟩)
      · exact Or.inr (Or.inl ⟨ne.1, hfr _ (fr2 _ (ne.2 0 0)), by show F 0 e 0 ≠ 0; rw [oe, g3a]; decide⟩)
      · exact Or.inr (Or.inl ⟨nf.1, hfr _ (fr2 _ (fr3 _ (nf.2 0 0))), by show F 0 f 0 ≠ 0; rw [of, g4a]; decide⟩)
      · exact Or.inr (Or.inl ⟨nP.1, hfr _ (fr2 _ (fr3 _ (fr4 _ (nP.2 0 0)))), by show F 0 P 0 ≠ 0; rw [oP, h2P.1]; decide⟩)
      · exact Or.inr (Or.inl ⟨nm.1, hfr _ (fr2 _ (fr3 _ (fr4 _ (nm.2 0 0)))), by show F 0 m 0 ≠ 0; rw [om, h2m.1]; decide⟩)
    · exact Or.inr (Or.inr (dead_neg _ _ _))
  have Fx : F 0 x 0 = 28 := by rw [xk 0 0 (by decide) (by decide) (by decide) (by decide) (by decide), x1]
  refine ⟨ad0 (v0 x B b1 b2 b3 d e f P m), ⟨⟨ad0_inj hv ?_, ?_⟩, ?_, ?_, ?_, ?_, ?_, ?_, ?_, ?_⟩, ?_, ?_⟩
  · intro t ht
    have c' : t = 0 ∨ t = 1 ∨ t = 2 ∨ t = 3 ∨ t = 4 ∨ t = 5 ∨ t = 6 ∨ t = 7 ∨ t = 8 ∨ t = 9 := by omega
    rcases c' with rfl | rfl | rfl | rfl | rfl | rfl | rfl | rfl | rfl | rfl
    · exact x0
    · exact nB.1
    · exact n1.1
    · exact n2.1
    · exact n3.1
    · exact nd.1
    · exact ne.1
    · exact nf.1
    · exact nP.1
    · exact nm.1
  · intro t i j
    rcases cs t i j with q | q | q
    · right; rw [q, Fx]; decide
    · exact Or.inr q.2.2
    · exact Or.inl q
  · have a : ∀ t, t < 10 → ad0 (v0 x B b1 b2 b3 d e f P m) t 0 0 = v0 x B b1 b2 b3 d e f P m t := fun t ht => if_pos ⟨ht, rfl, rfl⟩
    unfold RCf
    rw [a 0 (by decide), a 1 (by decide), a 2 (by decide), a 3 (by decide), a 4 (by decide), a 5 (by decide), a 6 (by decide), a 7 (by decide), a 8 (by decide), a 9 (by decide)]
    refine ⟨rfl, x0, Fx, F900, F904, F906, F908, Fp, nB.1, ?_, ?_, ?_, ?_, ?_, ?_, ?_, ?_, ?_, ?_, ?_, ?_, ?_, ?_, ?_, ?_, ?_, ?_, ?_, ?_⟩
    · exact (oB 0 0).trans q1
    · exact (oB 600 0).trans q2
    · exact (oB 602 0).trans q3
    · exact (oB 604 0).trans q4
    · exact (ob1 0 0).trans q6.1
    · exact (ob1 1 0).trans q6.2
    · exact (ob2 0 0).trans q7.1
    · exact (ob2 1 0).trans q7.2
    · exact (ob3 0 0).trans q8.1
    · exact (ob3 1 0).trans q8.2
    · exact (od 0 0).trans g2a
    · exact (od 1 0).trans g2b
    · exact (oe 0 0).trans g3a
    · exact (oe 1 0).trans g3b
    · exact (of 0 0).trans g4a
    · exact (of 1 0).trans g4b
    · exact (oP 0 0).trans h2P.1
    · exact (oP 700 0).trans h2P.2
    · exact (om 0 0).trans h2m.1
    · exact (om 1 0).trans h2m.2
  · have w : ∀ k, k ≠ 0 → k ≠ 900 → k ≠ 904 → k ≠ 906 → k ≠ 908 → k ≠ 910 → F k x 0 = 0 := fun k a0 a1 a2 a3 a4 a5 => by rw [xk k 0 a1 a2 a3 a4 a5, x2 k a0]
    refine ⟨w 901 (by decide) (by decide) (by decide) (by decide) (by decide) (by decide), w 902 (by decide) (by decide) (by decide) (by decide) (by decide) (by decide), w 903 (by decide) (by decide) (by decide) (by decide) (by decide) (by decide), w 905 (by decide) (by decide) (by decide) (by decide) (by decide) (by decide), w 907 (by decide) (by decide) (by decide) (by decide) (by decide) (by decide), w 909 (by decide) (by decide) (by decide) (by decide) (by decide) (by decide), ?_⟩
    exact (oB 601 0).trans q5
  · intro j j0 j1; exact absurd j1 (Int.not_lt.mpr j0)
  · intro p p0 p1; exact absurd p1 (Int.not_lt.mpr p0)
  · intro p i p0 p1; exact absurd p1 (Int.not_lt.mpr p0)
  · intro d d0 d1; exact absurd d1 (Int.not_lt.mpr d0)
  · intro d f d0 d1; exact absurd d1 (Int.not_lt.mpr d0)
  · intro r r0 r1; exact absurd r1 (Int.not_lt.mpr r0)
  · intro k y z hy yx
    have c1 := new_ne nB hy
    have c2 := new_ne n1 hy
    have c3 := new_ne n2 hy
    have c4 := new_ne n3 hy
    have hy1 : g1 0 y 0 ≠ 0 := by rw [g1x 0 y 0 (by omega), q9 0 y 0 c1 c2 c3 c4]; exact hy
    rw [o1 k y z hy1 yx, g1x k y z (fun q => yx q.2), q9 k y z c1 c2 c3 c4]
  · intro t i j
    rcases cs t i j with q | q | q
    · exact Or.inl q
    · exact Or.inr (Or.inr q.2.1)
    · exact Or.inr (Or.inl q)
