/-! ===== a new model ===== -/
def MKp (g h0 : ac_H) (m : Int) (n : Nat) : Prop := 0 < m ∧ g 0 m 0 = 29 ∧ (∀ k, mL k ≠ 0 → k < n → 0 < g (1000 + k) m 0 ∧ g 0 (g (1000 + k) m 0) 0 = mW k ∧ g 1 (g (1000 + k) m 0) 0 = mL k ∧ (∀ j, g (mW k) (g (1000 + k) m 0) j = 0) ∧ h0 0 (g (1000 + k) m 0) 0 = 0) ∧
  (∀ k k', mL k ≠ 0 → mL k' ≠ 0 → k < n → k' < n → g (1000 + k) m 0 = g (1000 + k') m 0 → k = k') ∧ (∀ k, (mL k = 0 ∨ n ≤ k) → g (1000 + k) m 0 = 0) ∧ (∀ (k : Nat) (y z : Int), h0 0 y 0 ≠ 0 → y ≠ m → g k y z = h0 k y z) ∧ (∀ y, h0 0 y 0 ≠ 0 → g 0 y 0 ≠ 0) ∧ h0 0 m 0 ≠ 0
theorem mi_k {g h0 : ac_H} {m : Int} {n : Nat} (p : MKp g h0 m n) (hn : mL n = 0) : MKp g h0 m (n + 1) := by
  obtain ⟨p1, p2, p3, p4, p5, p6, p7, p8⟩ := p
  have w : ∀ k, mL k ≠ 0 → k < n + 1 → k < n := fun k a b => by
    by_cases c : k = n
    · subst c; exact absurd hn a
    · omega
  exact ⟨p1, p2, fun k a b => p3 k a (w k a b), fun k k' a b c d => p4 k k' a b (w k a c) (w k' b d), fun k a => p5 k (by omega), p6, p7, p8⟩
theorem mi_s {g h0 : ac_H} {m a K L : Int} {n w : Nat} (p : MKp g h0 m n) (ha : ac_new g a) (hn : mL n ≠ 0) (hK : K = mW n) (hL : L = mL n) (hw : w = 1000 + n) : ∃ G, G = up (up (up g 0 a 0 K) 1 a 0 L) w m 0 a ∧ up (up g 0 a 0 K) 1 a 0 L 0 m 0 = 29 ∧ MKp G h0 m (n + 1) := by
  obtain ⟨p1, p2, p3, p4, p5, p6, p7, p8⟩ := p
  subst hK hL hw
  have ma : m ≠ a := new_ne ha (by rw [p2]; decide)
  have wz : ((mW n : Nat) : Int) ≠ 0 := by rcases mW_c n with q | q <;> rw [q] <;> decide
  have o : ∀ k y z, y ≠ a → ¬ (k = 1000 + n ∧ y = m) → up (up (up g 0 a 0 (mW n)) 1 a 0 (mL n)) (1000 + n) m 0 a k y z = g k y z := fun k y z e1 e2 => by
    rw [up_ne (fun q => e2 ⟨q.1, q.2.1⟩), up_a e1, up_a e1]
  have na : ∀ k, mL k ≠ 0 → k < n → g (1000 + k) m 0 ≠ a := fun k hk hk2 => new_ne ha (k := 0) (j := 0) (by
    rw [(p3 k hk hk2).2.1]
    rcases mW_c k with q | q <;> rw [q] <;> decide)
  have nm : ∀ k, mL k ≠ 0 → k < n → g (1000 + k) m 0 ≠ m := fun k hk hk2 e => by
    have := (p3 k hk hk2).2.1
    rw [e, p2] at this
    rcases mW_c k with q | q <;> rw [q] at this <;> exact absurd this (by decide)
  refine ⟨_, rfl, ?_, p1, ?_, fun k hk hk2 => ?_, fun k k' hk hk' k1 k2 e => ?_, fun k hk => ?_, fun k y z hy ym => ?_, fun y hy => ?_, p8⟩
  · rw [up_k (by decide), up_a ma, p2]
  · rw [o 0 m 0 ma (by omega), p2]
  · by_cases c : k = n
    · subst c
      rw [up_self]
      refine ⟨ha.1, ?_, ?_, fun j => ?_, ?_⟩
      · rw [up_k (by omega), up_k (by decide), up_self]
      · rw [up_k (by omega), up_self]
      · rcases mW_c k with q | q <;> rw [q, up_k (by omega), up_k (by decide), up_k (by decide)] <;> exact ha.2 _ _
      · by_cases z : h0 0 a 0 = 0
        · exact z
        · exact absurd (ha.2 0 0) (p7 a z)
    · have w := p3 k hk (by omega)
      have n1 := na k hk (by omega)
      have n2 := nm k hk (by omega)
      have e1 : up (up (up g 0 a 0 (mW n)) 1 a 0 (mL n)) (1000 + n) m 0 a (1000 + k) m 0 = g (1000 + k) m 0 := o _ _ _ ma (by omega)
      rw [e1, o _ _ _ n1 (fun q => n2 q.2), o _ _ _ n1 (fun q => n2 q.2)]
      exact ⟨w.1, w.2.1, w.2.2.1, fun j => by rw [o _ _ _ n1 (fun q => n2 q.2)]; exact w.2.2.2.1 j, w.2.2.2.2⟩
  · by_cases c : k = n
    · by_cases c' : k' = n
      · omega
      · exfalso
        subst c
        rw [up_self, o (1000 + k') m 0 ma (by omega)] at e
        exact na k' hk' (by omega) e.symm
    · by_cases c' : k' = n
      · exfalso
        subst c'
        rw [up_self, o (1000 + k) m 0 ma (by omega)] at e
        exact na k hk (by omega) e
      · rw [o (1000 + k) m 0 ma (by omega), o (1000 + k') m 0 ma (by omega)] at e
        exact p4 k k' hk hk' (by omega) (by omega) e
  · have c : k ≠ n := fun q => by
      subst q
      rcases hk with w | w
      · exact hn w
      · omega
    rw [o (1000 + k) m 0 ma (by omega)]
    exact p5 k (by omega)
  · rw [o k y z (new_ne ha (p7 y hy)) (fun q => ym q.2)]
    exact p6 k y z hy ym
  · rw [o 0 y 0 (new_ne ha (p7 y hy)) (by omega)]
    exact p7 y hy
theorem mL_32 {k : Nat} (h : mL k ≠ 0) : k < 32 := by
  by_cases c : k < 32
  · exact c
  · exfalso
    apply h
    unfold mL
    split <;> first | omega | rfl
def spX9_init : ac_Sp := sc_R (fun m h => 0 < m ∧ h 0 m 0 = 29 ∧ ∀ k, k ≠ 0 → h k m 0 = 0) (fun m h v h' => v = none ∧ MK h' m ∧ (∀ k, mL k = 0 → tv h' m k 0 = 0) ∧ (∀ k j, mL k ≠ 0 → tv h' m k j = 0) ∧ (∀ (k : Nat) (y z : Int), h 0 y 0 ≠ 0 → y ≠ m → h' k y z = h k y z) ∧ ∀ k, mL k ≠ 0 → h 0 (h' (1000 + k) m 0) 0 = 0) (fun _ _ _ _ => False)
theorem hvX9_init : hvp spX9_init := fun As h hp => by obtain ⟨x, rfl, hp⟩ := sh_R_inv hp; exact ⟨_, _, rfl, hp.1⟩
set_option maxRecDepth 100000 in
set_option maxHeartbeats 4000000 in
theorem mtX9_init {G : ac_G} {l : Launch} : ac_Met G l yX9_init mX9_init 1 20 24 6388 spX9_init := by
  refine ac_meth1 (pcs := pcX9_init) (B := fun P X J j => vcX9_init P X J j) (by decide) rfl rfl rfl (fun P X J hJ j => sdX9_init P X J hJ j) (hp_R (by decide)) fun As h hp => ?_
  obtain ⟨m, rfl, hp⟩ := sh_R_inv hp
  simp only [spX9_init, vcX9_init, mX9_init, sc_R, sh_R, ac_ent, ldI, ldR, stI, stR, inc, cI, cJ, cN, bop, oAdd, oSub, oMul, oAnd, oOr, oXor, oShl, oShr, oUshr, oRem, oDiv, oMx, oMn, oI2l, oLcmp, oDup, oDup2, oDupX1, oPop, bIc, bI0, bNul, getI, getR, putI, putZ, putR, aLen, aldI, aldZ, aldJ, aldR, astI, astZ, astJ, astR, nwO, nwA, gsT, oObj, oCpy, oCln, oCst, rtI, rtZ, rtR, rtV, thr, call, callH, ac_hsel, ac_as, ac_rs, ac_cs, ac_rcv, List.map_cons, List.map_nil, List.length_cons, List.length_nil, List.replicate, List.append_nil, List.cons_append, List.nil_append, List.getElem?_cons_zero, List.getElem?_cons_succ, List.set, Nat.zero_add, Nat.add_zero, Nat.le_refl, Nat.reduceAdd, Nat.reduceSub, Nat.reduceLeDiff, Int.reduceLT, Int.reduceLE, Int.reduceNeg, Int.reduceEq, true_and, and_true, true_or, or_true, not_true_eq_false, not_false_eq_true, false_implies, true_implies, implies_true, reduceIte, and_self, Int.reduceAdd, Int.reduceMul, Int.reduceSub, eq_self, Int.add_zero, Int.zero_add, String.reduceEq, Nat.zero_le, Option.some.injEq, Sum.inl.injEq, Sum.inr.injEq, reduceCtorEq, Int.reduceToNat, Option.toList_some, Option.toList_none, ac_cs, ac_c10, ac_c11, ac_c12, ac_c13, ac_c14, ac_c15, ac_c16, ac_c17, sc_E, sh_E, sc_I, sh_I, sc_II, sh_II, sc_III, sh_III, sc_R, sh_R, sc_RI, sh_RI, sc_RII, sh_RII, sc_RIII, sh_RIII, sc_RIIII, sh_RIIII, sc_RR, sh_RR, sc_RRI, sh_RRI, sc_RRR, sh_RRR, sc_RIR, sh_RIR, sc_RIRI, sh_RIRI, sc_RRII, sh_RRII, sc_RRIII, sh_RRIII, sc_RIIRR, sh_RIIRR, sc_RIIIRR, sh_RIIIRR, sc_RIIR, sh_RIIR, sc_RRIIR, sh_RRIIR, sc_RRIIIR, sh_RRIIIR, sc_RRIIIIR, sh_RRIIIIR, sc_RRIR, sh_RRIR]
  obtain ⟨x0, x1, x2⟩ := hp
  have p2 : MKp h h m 2 := ⟨x0, x1, fun k a b => by
      have : k = 0 ∨ k = 1 := by omega
      rcases this with rfl | rfl <;> exact absurd rfl a, fun k k' a b c => by
      have : k = 0 ∨ k = 1 := by omega
      rcases this with rfl | rfl <;> exact absurd rfl a, fun k _ => x2 _ (by omega), fun _ _ _ _ _ => rfl, fun _ h => h, by rw [x1]; decide⟩
  refine ⟨x0, fun a2 n2 => ?_⟩
  obtain ⟨g2, e2, z2, p3⟩ := mi_s (n := 2) (K := 10) (L := 10) (w := 1002) p2 n2 (by decide) rfl rfl rfl
  rw [← e2]
  refine ⟨z2, ?_⟩
  clear e2
  intro a3 n3
  obtain ⟨g3, e3, z3, p4⟩ := mi_s (n := 3) (K := 10) (L := 40) (w := 1003) p3 n3 (by decide) rfl rfl rfl
  rw [← e3]
  refine ⟨z3, ?_⟩
  clear e3
  intro a4 n4
  obtain ⟨g4, e4, z4, p5⟩ := mi_s (n := 4) (K := 11) (L := 40) (w := 1004) p4 n4 (by decide) rfl rfl rfl
  rw [← e4]
  refine ⟨z4, ?_⟩
  clear e4
  intro a5 n5
  obtain ⟨g5, e5, z5, p6⟩ := mi_s (n := 5) (K := 10) (L := 40) (w := 1005) p5 n5 (by decide) rfl rfl rfl
  rw [← e5]
  refine ⟨z5, ?_⟩
  clear e5
  intro a6 n6
  obtain ⟨g6, e6, z6, p7⟩ := mi_s (n := 6) (K := 10) (L := 10) (w := 1006) p6 n6 (by decide) rfl rfl rfl
  rw [← e6]
  refine ⟨z6, ?_⟩
  clear e6
  have p8 := mi_k p7 rfl
  intro a8 n8
  obtain ⟨g8, e8, z8, p9⟩ := mi_s (n := 8) (K := 10) (L := 30) (w := 1008) p8 n8 (by decide) rfl rfl rfl
  rw [← e8]
  refine ⟨z8, ?_⟩
  clear e8
  intro a9 n9
  obtain ⟨g9, e9, z9, p10⟩ := mi_s (n := 9) (K := 10) (L := 30) (w := 1009) p9 n9 (by decide) rfl rfl rfl
  rw [← e9]
  refine ⟨z9, ?_⟩
  clear e9
  intro a10 n10
  obtain ⟨g10, e10, z10, p11⟩ := mi_s (n := 10) (K := 10) (L := 60) (w := 1010) p10 n10 (by decide) rfl rfl rfl
  rw [← e10]
  refine ⟨z10, ?_⟩
  clear e10
  have p12 := mi_k p11 rfl
  intro a12 n12
  obtain ⟨g12, e12, z12, p13⟩ := mi_s (n := 12) (K := 10) (L := 6) (w := 1012) p12 n12 (by decide) rfl rfl rfl
  rw [← e12]
  refine ⟨z12, ?_⟩
  clear e12
  intro a13 n13
  obtain ⟨g13, e13, z13, p14⟩ := mi_s (n := 13) (K := 10) (L := 10) (w := 1013) p13 n13 (by decide) rfl rfl rfl
  rw [← e13]
  refine ⟨z13, ?_⟩
  clear e13
  have p15 := mi_k p14 rfl
  have p16 := mi_k p15 rfl
  intro a16 n16
  obtain ⟨g16, e16, z16, p17⟩ := mi_s (n := 16) (K := 10) (L := 20) (w := 1016) p16 n16 (by decide) rfl rfl rfl
  rw [← e16]
  refine ⟨z16, ?_⟩
  clear e16
  intro a17 n17
  obtain ⟨g17, e17, z17, p18⟩ := mi_s (n := 17) (K := 10) (L := 120) (w := 1017) p17 n17 (by decide) rfl rfl rfl
  rw [← e17]
  refine ⟨z17, ?_⟩
  clear e17
  intro a18 n18
  obtain ⟨g18, e18, z18, p19⟩ := mi_s (n := 18) (K := 10) (L := 960) (w := 1018) p18 n18 (by decide) rfl rfl rfl
  rw [← e18]
  refine ⟨z18, ?_⟩
  clear e18
  intro a19 n19
  obtain ⟨g19, e19, z19, p20⟩ := mi_s (n := 19) (K := 10) (L := 960) (w := 1019) p19 n19 (by decide) rfl rfl rfl
  rw [← e19]
  refine ⟨z19, ?_⟩
  clear e19
  intro a20 n20
  obtain ⟨g20, e20, z20, p21⟩ := mi_s (n := 20) (K := 10) (L := 60) (w := 1020) p20 n20 (by decide) rfl rfl rfl
  rw [← e20]
  refine ⟨z20, ?_⟩
  clear e20
  intro a21 n21
  obtain ⟨g21, e21, z21, p22⟩ := mi_s (n := 21) (K := 10) (L := 60) (w := 1021) p21 n21 (by decide) rfl rfl rfl
  rw [← e21]
  refine ⟨z21, ?_⟩
  clear e21
  have p23 := mi_k p22 rfl
  intro a23 n23
  obtain ⟨g23, e23, z23, p24⟩ := mi_s (n := 23) (K := 10) (L := 16) (w := 1023) p23 n23 (by decide) rfl rfl rfl
  rw [← e23]
  refine ⟨z23, ?_⟩
  clear e23
  intro a24 n24
  obtain ⟨g24, e24, z24, p25⟩ := mi_s (n := 24) (K := 10) (L := 16) (w := 1024) p24 n24 (by decide) rfl rfl rfl
  rw [← e24]
  refine ⟨z24, ?_⟩
  clear e24
  have p26 := mi_k p25 rfl
  intro a26 n26
  obtain ⟨g26, e26, z26, p27⟩ := mi_s (n := 26) (K := 10) (L := 60) (w := 1026) p26 n26 (by decide) rfl rfl rfl
  rw [← e26]
  refine ⟨z26, ?_⟩
  clear e26
  intro a27 n27
  obtain ⟨g27, e27, z27, p28⟩ := mi_s (n := 27) (K := 10) (L := 3600) (w := 1027) p27 n27 (by decide) rfl rfl rfl
  rw [← e27]
  refine ⟨z27, ?_⟩
  clear e27
  intro a28 n28
  obtain ⟨g28, e28, z28, p29⟩ := mi_s (n := 28) (K := 10) (L := 60) (w := 1028) p28 n28 (by decide) rfl rfl rfl
  rw [← e28]
  refine ⟨z28, ?_⟩
  clear e28
  intro a29 n29
  obtain ⟨g29, e29, z29, p30⟩ := mi_s (n := 29) (K := 10) (L := 60) (w := 1029) p29 n29 (by decide) rfl rfl rfl
  rw [← e29]
  refine ⟨z29, ?_⟩
  clear e29
  intro a30 n30
  obtain ⟨g30, e30, z30, p31⟩ := mi_s (n := 30) (K := 10) (L := 60) (w := 1030) p30 n30 (by decide) rfl rfl rfl
  rw [← e30]
  refine ⟨z30, ?_⟩
  clear e30
  intro a31 n31
  obtain ⟨g31, e31, z31, p32⟩ := mi_s (n := 31) (K := 10) (L := 60) (w := 1031) p31 n31 (by decide) rfl rfl rfl
  rw [← e31]
  refine ⟨z31, ?_⟩
  clear e31
  obtain ⟨q1, q2, q3, q4, q5, q6, q7, q8⟩ := p32
  refine ⟨⟨q1, q2, fun k hk => ⟨(q3 k hk (mL_32 hk)).1, (q3 k hk (mL_32 hk)).2.1, (q3 k hk (mL_32 hk)).2.2.1⟩, fun k k' hk hk' e => q4 k k' hk hk' (mL_32 hk) (mL_32 hk') e⟩, fun k hk => ?_, fun k j hk => ?_, q6, fun k hk => (q3 k hk (mL_32 hk)).2.2.2.2⟩
  · rw [tv_f hk]; exact q5 k (Or.inl hk)
  · rw [tv_a hk]; exact (q3 k hk (mL_32 hk)).2.2.2.1 j
