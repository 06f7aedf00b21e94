/-! ===== all rooms are found ===== -/
theorem fcn_ex {st : Int} : ∀ n : Nat, 0 < fcn st n → ∃ r : Nat, r < n ∧ lb st r = false
  | 0, h => by simp [fcn] at h
  | n + 1, h => by
    rw [fcn] at h
    by_cases q : lb st n = true
    · rw [if_pos q] at h
      obtain ⟨r, a, b⟩ := fcn_ex n (by omega)
      exact ⟨r, by omega, b⟩
    · exact ⟨n, by omega, by simpa using q⟩
theorem cl_0 {b : Int} (hc : ∀ r d : Int, 0 ≤ r → r < 16 → 0 ≤ d → d < 4 → lb b r = true → nb r d ≠ -1 → lb b (nb r d) = true) : ∀ n : Nat, n < 16 → lb b n = true → lb b 0 = true := by
  intro n
  induction n using Nat.strongRecOn with
  | ind n ih =>
    intro hn h
    by_cases z : n = 0
    · subst z; exact h
    by_cases q : (n : Int) % 4 ≤ 0
    · have e : nb n 0 = (n : Int) - 4 := by unfold nb; rw [if_pos rfl, if_neg (by omega)]
      have := hc n 0 (by omega) (by omega) (by omega) (by omega) h (by omega)
      rw [e] at this
      have e2 : ((n - 4 : Nat) : Int) = (n : Int) - 4 := by omega
      rw [← e2] at this
      exact ih (n - 4) (by omega) (by omega) this
    · have e : nb n 1 = (n : Int) - 1 := by unfold nb; rw [if_neg (by omega), if_pos rfl, if_neg q]
      have := hc n 1 (by omega) (by omega) (by omega) (by omega) h (by omega)
      rw [e] at this
      have e2 : ((n - 1 : Nat) : Int) = (n : Int) - 1 := by omega
      rw [← e2] at this
      exact ih (n - 1) (by omega) (by omega) this
theorem cl_n {b : Int} (hc : ∀ r d : Int, 0 ≤ r → r < 16 → 0 ≤ d → d < 4 → lb b r = true → nb r d ≠ -1 → lb b (nb r d) = true) (h0 : lb b 0 = true) : ∀ n : Nat, n < 16 → lb b n = true := by
  intro n
  induction n using Nat.strongRecOn with
  | ind n ih =>
    intro hn
    by_cases z : n = 0
    · subst z; exact h0
    by_cases q : (n : Int) % 4 ≤ 0
    · have e2 : ((n - 4 : Nat) : Int) = (n : Int) - 4 := by omega
      have e : nb ((n - 4 : Nat) : Int) 3 = n := by rw [e2]; unfold nb; rw [if_neg (by omega), if_neg (by omega), if_neg (by omega), if_neg (by omega)]; omega
      have := hc ((n - 4 : Nat) : Int) 3 (by omega) (by omega) (by omega) (by omega) (ih (n - 4) (by omega) (by omega)) (by omega)
      rw [e] at this
      exact this
    · have e2 : ((n - 1 : Nat) : Int) = (n : Int) - 1 := by omega
      have e : nb ((n - 1 : Nat) : Int) 2 = n := by rw [e2]; unfold nb; rw [if_neg (by omega), if_neg (by omega), if_pos rfl, if_neg (by omega)]; omega
      have := hc ((n - 1 : Nat) : Int) 2 (by omega) (by omega) (by omega) (by omega) (ih (n - 1) (by omega) (by omega)) (by omega)
      rw [e] at this
      exact this
theorem conn {b r0 : Int} (h0 : 0 ≤ r0) (h1 : r0 < 16) (hb : lb b r0 = true) (hf : 0 < fcn b 16) : ∃ r d, 0 ≤ r ∧ r < 16 ∧ 0 ≤ d ∧ d < 4 ∧ lb b r = true ∧ nb r d ≠ -1 ∧ lb b (nb r d) = false := by
  by_cases q : ∃ r d, 0 ≤ r ∧ r < 16 ∧ 0 ≤ d ∧ d < 4 ∧ lb b r = true ∧ nb r d ≠ -1 ∧ lb b (nb r d) = false
  · exact q
  · exfalso
    have hc : ∀ r d : Int, 0 ≤ r → r < 16 → 0 ≤ d → d < 4 → lb b r = true → nb r d ≠ -1 → lb b (nb r d) = true := fun r d a1 a2 a3 a4 a5 a6 => by
      cases e : lb b (nb r d)
      · exact absurd ⟨r, d, a1, a2, a3, a4, a5, a6, e⟩ q
      · rfl
    obtain ⟨r, ra, rb⟩ := fcn_ex 16 hf
    have e : ((r0.toNat : Nat) : Int) = r0 := Int.toNat_of_nonneg h0
    have := cl_n hc (cl_0 hc r0.toNat (by omega) (by rw [e]; exact hb)) r ra
    rw [rb] at this
    exact absurd this (by decide)
theorem lb_bt {b i : Int} (h0 : 0 ≤ i) (h1 : i < 32) : lb b i = false ↔ bt b i = 0 := by
  rw [bt_lb h0 h1]
  cases lb b i <;> simp
theorem d2n_ne {r t b d : Int} (d0 : 0 ≤ d) (d1 : d < 4) (hn : nb r d ≠ -1) (hb : bt b (nb r d) = 0) (t0 : 0 ≤ t) : d2n r t b ≠ -1 := by
  unfold d2n
  rcases fnd_cases (P := d2p r t b) 4 with ⟨e1, e2⟩ | ⟨e1, e2, -⟩
  · exfalso
    have e : (t + (d - t) % 4) % 4 = d := by omega
    have := e2 ((d - t) % 4) (by omega) (by omega)
    unfold d2p at this
    rw [e] at this
    exact of_decide_eq_false this ⟨hn, hb⟩
  · rw [if_neg (by omega)]
    omega
theorem md1 (a k : Int) : (a % k + 1) % k = (a + 1) % k := by rw [Int.add_emod, Int.emod_emod, ← Int.add_emod]
theorem md_at {s j k : Int} (s0 : 0 ≤ s) (s1 : s < k) (j0 : 0 ≤ j) (j1 : j < k) : ∃ i, 0 ≤ i ∧ i < k ∧ (s + i) % k = j := by
  by_cases q : s ≤ j
  · exact ⟨j - s, by omega, by omega, by rw [show s + (j - s) = j by omega]; exact Int.emod_eq_of_lt j0 j1⟩
  · refine ⟨j - s + k, by omega, by omega, ?_⟩
    rw [show s + (j - s + k) = j + k by omega, Int.add_emod_right]
    exact Int.emod_eq_of_lt j0 j1
/-- what is found after n rooms more -/
def GI (T : (Int → Int) × Int × (Int → Int)) (n : Nat) : Prop := (∀ j : Int, 0 ≤ j → j ≤ n → 0 ≤ T.1 j ∧ T.1 j < 16 ∧ lb T.2.1 (T.1 j) = true) ∧ (∀ r : Int, 0 ≤ r → r < 16 → lb T.2.1 r = true → ∃ j : Int, 0 ≤ j ∧ j ≤ n ∧ T.1 j = r) ∧ fcn T.2.1 16 + (n + 1) = 16
theorem GI_gwi {T : (Int → Int) × Int × (Int → Int)} {n : Nat} {s t : Int} (h : GI T n) (hn : n < 15) (s0 : 0 ≤ s) (s1 : s < (n : Int) + 1) (t0 : 0 ≤ t) : gwi T.1 T.2.1 s t (n + 1) ≠ -1 := by
  obtain ⟨h1, h2, h3⟩ := h
  have z := h1 0 (by omega) (by omega)
  obtain ⟨r, d, a1, a2, a3, a4, a5, a6, a7⟩ := conn z.1 z.2.1 z.2.2 (by omega)
  obtain ⟨j, j0, j1, j2⟩ := h2 r a1 a2 a5
  obtain ⟨i, i0, i1, i2⟩ := md_at s0 s1 j0 (show j < (n : Int) + 1 by omega)
  have nn := (nb_r (d := d) a1 a2).resolve_left a6
  unfold gwi
  rcases fnd_cases (P := fun i => decide (d2n (T.1 ((s + i) % ((n + 1 : Nat) : Int))) t T.2.1 ≠ -1)) (n + 1) with ⟨e1, e2⟩ | ⟨e1, e2, -⟩
  · exfalso
    have := e2 i i0 (by omega)
    rw [show ((n + 1 : Nat) : Int) = (n : Int) + 1 from rfl, i2, j2] at this
    exact of_decide_eq_false this (d2n_ne a3 a4 a6 ((lb_bt nn.1 (by omega)).mp a7) t0)
  · omega
theorem GI_s {T : (Int → Int) × Int × (Int → Int)} {n : Nat} {s t : Int} (h : GI T n) (hn : n < 15) (s0 : 0 ≤ s) (s1 : s < (n : Int) + 1) (t0 : 0 ≤ t) : GI (gws T (n + 1) s t) (n + 1) := by
  have g := GI_gwi h hn s0 s1 t0
  obtain ⟨h1, h2, h3⟩ := h
  have c := fnd_cases (P := fun i => decide (d2n (T.1 ((s + i) % ((n + 1 : Nat) : Int))) t T.2.1 ≠ -1)) (n + 1)
  rcases c with ⟨e1, -⟩ | ⟨e1, e2, e3, -⟩
  · exact absurd e1 g
  have e4 := of_decide_eq_true e3
  unfold gws
  rw [if_neg g]
  dsimp only
  change d2n (T.1 ((s + gwi T.1 T.2.1 s t (n + 1)) % ((n + 1 : Nat) : Int))) t T.2.1 ≠ -1 at e4
  have m0 := Int.emod_nonneg (s + gwi T.1 T.2.1 s t (n + 1)) (show ((n + 1 : Nat) : Int) ≠ 0 by omega)
  have m1 := Int.emod_lt_of_pos (s + gwi T.1 T.2.1 s t (n + 1)) (show (0 : Int) < ((n + 1 : Nat) : Int) by omega)
  have hr := h1 _ m0 (by omega)
  generalize T.1 ((s + gwi T.1 T.2.1 s t (n + 1)) % ((n + 1 : Nat) : Int)) = r at e4 hr ⊢
  obtain ⟨d0, d1, d2, d3⟩ := d2n_ok e4 t0
  have nn := (nb_r (d := d2n r t T.2.1) hr.1 hr.2.1).resolve_left d2
  generalize nb r (d2n r t T.2.1) = w at d3 nn ⊢
  have lw : lb T.2.1 w = false := (lb_bt nn.1 (by omega)).mpr d3
  have ls : ∀ j : Int, 0 ≤ j → j < 16 → lb (ior T.2.1 (ishl 1 w)) j = (lb T.2.1 j || decide (j = w)) := fun j j0 j1 => by rw [lb_or, lb_shl nn.1 (by omega) j0 (by omega)]
  refine ⟨fun j j0 j1 => ?_, fun q q0 q1 hq => ?_, ?_⟩
  · show 0 ≤ fu T.1 ((n + 1 : Nat) : Int) w j ∧ fu T.1 ((n + 1 : Nat) : Int) w j < 16 ∧ lb (ior T.2.1 (ishl 1 w)) (fu T.1 ((n + 1 : Nat) : Int) w j) = true
    unfold fu
    by_cases e : j = ((n + 1 : Nat) : Int)
    · rw [if_pos e]
      exact ⟨nn.1, nn.2, by rw [ls w nn.1 nn.2]; simp⟩
    · rw [if_neg e]
      have := h1 j j0 (by omega)
      exact ⟨this.1, this.2.1, by rw [ls _ this.1 this.2.1, this.2.2]; rfl⟩
  · change lb (ior T.2.1 (ishl 1 w)) q = true at hq
    show ∃ j : Int, 0 ≤ j ∧ j ≤ ((n + 1 : Nat) : Int) ∧ fu T.1 ((n + 1 : Nat) : Int) w j = q
    rw [ls q q0 q1] at hq
    by_cases e : q = w
    · exact ⟨((n + 1 : Nat) : Int), by omega, by omega, by rw [fu, if_pos rfl]; exact e.symm⟩
    · simp [e] at hq
      obtain ⟨j, j0, j1, j2⟩ := h2 q q0 q1 hq
      exact ⟨j, j0, by omega, by rw [fu, if_neg (by omega)]; exact j2⟩
  · show fcn (ior T.2.1 (ishl 1 w)) 16 + (n + 1 + 1) = 16
    have a := fcn_set (st := T.2.1) (p := w.toNat) (by omega) (by rw [Int.toNat_of_nonneg nn.1]; exact lw) 16 (by omega)
    rw [if_pos (by omega), Int.toNat_of_nonneg nn.1] at a
    omega
theorem GI_n {x e : Int} {D : Int → Int} (hx : 0 ≤ x ∧ x < 65537) (he : 0 ≤ e ∧ e < 16) : ∀ n : Nat, n ≤ 15 → GI (gwT x e D n) n
  | 0, _ => by
    have ls : ∀ j : Int, 0 ≤ j → j < 16 → lb (ishl 1 e) j = decide (j = e) := fun j j0 j1 => lb_shl he.1 (by omega) j0 (by omega)
    refine ⟨fun j j0 j1 => ?_, fun r r0 r1 hr => ?_, ?_⟩
    · have : j = 0 := by omega
      subst this
      show 0 ≤ fu (fun _ => 0) 0 e 0 ∧ fu (fun _ => 0) 0 e 0 < 16 ∧ lb (ishl 1 e) (fu (fun _ => 0) 0 e 0) = true
      unfold fu
      rw [if_pos rfl]
      exact ⟨he.1, he.2, by rw [ls e he.1 he.2]; simp⟩
    · change lb (ishl 1 e) r = true at hr
      rw [ls r r0 r1] at hr
      exact ⟨0, by omega, by omega, by show fu (fun _ => 0) 0 e 0 = r; rw [fu, if_pos rfl]; exact (of_decide_eq_true hr).symm⟩
    · show fcn (ishl 1 e) 16 + (0 + 1) = 16
      have z : ishl 1 e = ior 0 (ishl 1 e) := by
        have h := he
        have c : e = 0 ∨ e = 1 ∨ e = 2 ∨ e = 3 ∨ e = 4 ∨ e = 5 ∨ e = 6 ∨ e = 7 ∨ e = 8 ∨ e = 9 ∨ e = 10 ∨ e = 11 ∨ e = 12 ∨ e = 13 ∨ e = 14 ∨ e = 15 := by omega
        rcases c with rfl | rfl | rfl | rfl | rfl | rfl | rfl | rfl | rfl | rfl | rfl | rfl | rfl | rfl | rfl | rfl <;> decide
      have a := fcn_set (st := 0) (p := e.toNat) (by omega) lb_0 16 (by omega)
      rw [if_pos (by omega), Int.toNat_of_nonneg he.1, ← z] at a
      have : fcn 0 16 = 16 := by simp [fcn, lb_0]
      omega
  | n + 1, hn => by
    rw [gwT]
    exact GI_s (GI_n hx he n (by omega)) (by omega) (Int.emod_nonneg _ (by omega)) (Int.emod_lt_of_pos _ (by omega)) (xk_r hx _).1
theorem rwo_tr {f f1 f2 D D2 : Int → Int} {b : Int} (a : rwo f1 f b D) (c : rwo f2 f1 b D2) : rwo f2 f b D2 := ⟨c.1, fun j hj => (c.2 j hj).trans (a.2 j hj)⟩
theorem rwo_ro {f f1 D : Int → Int} {b : Int} (a : rwo f1 f b D) : ∀ j, 0 ≤ j → j < 16 → ro f1 b j = D j := a.1
theorem rwo_cg {f f1 D D2 : Int → Int} {b : Int} (a : rwo f1 f b D) (h : ∀ j, 0 ≤ j → j < 16 → D j = D2 j) : rwo f1 f b D2 := ⟨fun j j0 j1 => (a.1 j j0 j1).trans (h j j0 j1), a.2⟩
def spX9_growsWays : ac_Sp := sc_RII (fun m b e h => MK h m ∧ (0 ≤ b ∧ b ≤ 944) ∧ (0 ≤ e ∧ e < 16) ∧ (0 ≤ tv h m 22 0 ∧ tv h m 22 0 < 65537) ∧ ∀ j, 0 ≤ j → j < 16 → tv h m 18 (b + j) = 0) (fun m b e h v h' => v = none ∧ ∃ T', MT h h' m T' ∧ (∀ k, k ≠ 18 → k ≠ 22 → k ≠ 23 → T' k = tv h m k) ∧ T' 22 0 = xk (tv h m 22 0) 30 ∧ rwo (T' 18) (tv h m 18) b (gwT (tv h m 22 0) e (fun _ => 0) 15).2.2) (fun _ _ _ _ _ _ => False)
def ivX9_growsWays (m b e : Int) (h : ac_H) (T : mT) : Nat → Nat → ac_S := fun j mm => match j with
  | 0 => fun L S g k z => mm = 5000 ∧ ent0 [some (.inr (.inl m)), some (.inl b), some (.inl e), none, none, none, none, none, none] h L S g k z
  | 1 => fun L S g k z => ∃ (n : Nat) (T' : mT) (o5 o6 o7 o8 : Option ac_V), n ≤ 15 ∧ mm = (15 - n) * 100 ∧ MT h g m T' ∧ (∀ k, k ≠ 18 → k ≠ 22 → k ≠ 23 → T' k = T k) ∧ T' 22 0 = xk (T 22 0) (2 * n) ∧ rwo (T' 18) (T 18) b (gwT (T 22 0) e (fun _ => 0) n).2.2 ∧ (∀ j : Int, 0 ≤ j → j ≤ n → T' 23 j = (gwT (T 22 0) e (fun _ => 0) n).1 j) ∧ L = [some (.inr (.inl m)), some (.inl b), some (.inl e), some (.inl (gwT (T 22 0) e (fun _ => 0) n).2.1), some (.inl (n + 1)), o5, o6, o7, o8] ∧ S = [] ∧ k = 0 ∧ z = 0
  | 2 => fun L S g k z => ∃ (n : Nat) (p : Int) (T' : mT) (o8 : Option ac_V), n < 15 ∧ (mm : Int) = (15 - n) * 100 - 1 - p ∧ 0 ≤ p ∧ p ≤ n ∧ (∀ j, 0 ≤ j → j < p → d2n ((gwT (T 22 0) e (fun _ => 0) n).1 ((xk (T 22 0) (2 * n + 1) % ((n : Int) + 1) + j) % ((n : Int) + 1))) (xk (T 22 0) (2 * n + 2)) (gwT (T 22 0) e (fun _ => 0) n).2.1 = -1) ∧ MT h g m T' ∧ (∀ k, k ≠ 18 → k ≠ 22 → k ≠ 23 → T' k = T k) ∧ T' 22 0 = xk (T 22 0) (2 * n + 2) ∧ rwo (T' 18) (T 18) b (gwT (T 22 0) e (fun _ => 0) n).2.2 ∧ (∀ j : Int, 0 ≤ j → j ≤ n → T' 23 j = (gwT (T 22 0) e (fun _ => 0) n).1 j) ∧ L = [some (.inr (.inl m)), some (.inl b), some (.inl e), some (.inl (gwT (T 22 0) e (fun _ => 0) n).2.1), some (.inl (n + 1)), some (.inl (xk (T 22 0) (2 * n + 1))), some (.inl (xk (T 22 0) (2 * n + 2))), some (.inl ((xk (T 22 0) (2 * n + 1) % ((n : Int) + 1) + p) % ((n : Int) + 1))), o8] ∧ S = [] ∧ k = 0 ∧ z = 0
  | _ => fun _ _ _ _ _ => False
set_option maxRecDepth 100000 in
set_option maxHeartbeats 4000000 in
theorem mtX9_growsWays {G : ac_G} {l : Launch} : ac_Met G l yX9_growsWays mX9_growsWays 3 69 0 0 spX9_growsWays := by
  refine ac_meth (pcs := pcX9_growsWays) (B := fun P X J j => vcX9_growsWays spX9_draws spX9_toFind spX9_joins spX9_beside P X J j) (by decide) rfl rfl rfl (fun P X J hJ j => sdX9_growsWays mtX9_draws mtX9_toFind mtX9_joins mtX9_beside P X J hJ j) (hp_RII (by decide)) fun As h hp => ?_
  obtain ⟨m, b, e, rfl, hp⟩ := sh_RII_inv hp
  obtain ⟨hK, hb, he, hx, hz⟩ := hp
  have hM := mt_0 hK
  obtain ⟨T, hT⟩ : ∃ T, tv h m = T := ⟨_, rfl⟩
  rw [hT] at hM hx hz
  refine ⟨ivX9_growsWays m b e h T, 5000, ⟨rfl, rfl, rfl, rfl, rfl, rfl⟩, fun j mm L S g k z hJ => ?_⟩
  match j, hJ with
  | 0, hJ =>
    obtain ⟨hm, rfl, rfl, rfl, rfl, rfl⟩ := hJ
    simp only [spX9_growsWays, vcX9_growsWays, mX9_growsWays, spX9_draws, spX9_toFind, spX9_joins, spX9_beside, ac_ent, ldI, ldR, stI, stR, inc, cI, cJ, cN, bop, oAdd, oSub, oMul, oAnd, oOr, oXor, oShl, oShr, oUshr, oRem, oDiv, oMx, oMn, oI2l, oLcmp, oDup, oDup2, oDupX1, oPop, bIc, bI0, bNul, getI, getR, putI, putZ, putR, aLen, aldI, aldZ, aldJ, aldR, astI, astZ, astJ, astR, nwO, nwA, gsT, oObj, oCpy, oCln, oCst, rtI, rtZ, rtR, rtV, thr, call, callH, ac_hsel, ac_as, ac_rs, ac_cs, ac_rcv, List.map_cons, List.map_nil, List.length_cons, List.length_nil, List.replicate, List.append_nil, List.cons_append, List.nil_append, List.getElem?_cons_zero, List.getElem?_cons_succ, List.set, Nat.zero_add, Nat.add_zero, Nat.le_refl, Nat.reduceAdd, Nat.reduceSub, Nat.reduceLeDiff, Int.reduceLT, Int.reduceLE, Int.reduceNeg, Int.reduceEq, true_and, and_true, true_or, or_true, not_true_eq_false, not_false_eq_true, false_implies, true_implies, implies_true, reduceIte, and_self, Int.reduceAdd, Int.reduceMul, Int.reduceSub, eq_self, Int.add_zero, Int.zero_add, String.reduceEq, Nat.zero_le, Option.some.injEq, Sum.inl.injEq, Sum.inr.injEq, reduceCtorEq, Int.reduceToNat, Option.toList_some, Option.toList_none, ac_cs, ac_c10, ac_c11, ac_c12, ac_c13, ac_c14, ac_c15, ac_c16, ac_c17, sc_E, sh_E, sc_I, sh_I, sc_II, sh_II, sc_III, sh_III, sc_R, sh_R, sc_RI, sh_RI, sc_RII, sh_RII, sc_RIII, sh_RIII, sc_RIIII, sh_RIIII, sc_RR, sh_RR, sc_RRI, sh_RRI, sc_RRR, sh_RRR, sc_RIR, sh_RIR, sc_RIRI, sh_RIRI, sc_RRII, sh_RRII, sc_RRIII, sh_RRIII, sc_RIIRR, sh_RIIRR, sc_RIIIRR, sh_RIIIRR, sc_RIIR, sh_RIIR, sc_RRIIR, sh_RRIIR, sc_RRIIIR, sh_RRIIIR, sc_RRIIIIR, sh_RRIIIIR, sc_RRIR, sh_RRIR, mt_k hM, mr_23 hM, mk_23 hM, ml_23 hM]
    have hM2 := mt_a 23 hM (by decide) rfl (j := 0) (v := e)
    refine ⟨1500, by omega, 0, tu T 23 0 e, none, none, none, none, by omega, by omega, hM2, fun k a b c => tu_k c, by simp only [tu_k, tu_s, ne_eq, Nat.reduceEqDiff, not_false_eq_true]; rfl, ?_, fun j j0 j1 => ?_, rfl, rfl, rfl, rfl⟩
    · simp only [tu_k, tu_s, ne_eq, Nat.reduceEqDiff, not_false_eq_true]
      exact ⟨fun j j0 j1 => hz j j0 j1, fun j hj => rfl⟩
    · have : j = 0 := by omega
      subst this
      rw [tu_s]
      show e = fu (fun _ => 0) 0 e 0
      rw [fu, if_pos rfl]
  | 1, hJ =>
    obtain ⟨n, T', o5, o6, o7, o8, n1, hm, hN, ho, h22, h18, h23, rfl, rfl, rfl, rfl⟩ := hJ
    have g0 := xk_r hx (2 * n)
    have g1 := xk_r hx (2 * n + 1)
    have g2 := xk_r hx (2 * n + 2)
    have e1 : drw (xk (T 22 0) (2 * n)) = xk (T 22 0) (2 * n + 1) := rfl
    have e2 : drw (xk (T 22 0) (2 * n + 1)) = xk (T 22 0) (2 * n + 2) := rfl
    simp only [spX9_growsWays, vcX9_growsWays, mX9_growsWays, spX9_draws, spX9_toFind, spX9_joins, spX9_beside, ac_ent, ldI, ldR, stI, stR, inc, cI, cJ, cN, bop, oAdd, oSub, oMul, oAnd, oOr, oXor, oShl, oShr, oUshr, oRem, oDiv, oMx, oMn, oI2l, oLcmp, oDup, oDup2, oDupX1, oPop, bIc, bI0, bNul, getI, getR, putI, putZ, putR, aLen, aldI, aldZ, aldJ, aldR, astI, astZ, astJ, astR, nwO, nwA, gsT, oObj, oCpy, oCln, oCst, rtI, rtZ, rtR, rtV, thr, call, callH, ac_hsel, ac_as, ac_rs, ac_cs, ac_rcv, List.map_cons, List.map_nil, List.length_cons, List.length_nil, List.replicate, List.append_nil, List.cons_append, List.nil_append, List.getElem?_cons_zero, List.getElem?_cons_succ, List.set, Nat.zero_add, Nat.add_zero, Nat.le_refl, Nat.reduceAdd, Nat.reduceSub, Nat.reduceLeDiff, Int.reduceLT, Int.reduceLE, Int.reduceNeg, Int.reduceEq, true_and, and_true, true_or, or_true, not_true_eq_false, not_false_eq_true, false_implies, true_implies, implies_true, reduceIte, and_self, Int.reduceAdd, Int.reduceMul, Int.reduceSub, eq_self, Int.add_zero, Int.zero_add, String.reduceEq, Nat.zero_le, Option.some.injEq, Sum.inl.injEq, Sum.inr.injEq, reduceCtorEq, Int.reduceToNat, Option.toList_some, Option.toList_none, ac_cs, ac_c10, ac_c11, ac_c12, ac_c13, ac_c14, ac_c15, ac_c16, ac_c17, sc_E, sh_E, sc_I, sh_I, sc_II, sh_II, sc_III, sh_III, sc_R, sh_R, sc_RI, sh_RI, sc_RII, sh_RII, sc_RIII, sh_RIII, sc_RIIII, sh_RIIII, sc_RR, sh_RR, sc_RRI, sh_RRI, sc_RRR, sh_RRR, sc_RIR, sh_RIR, sc_RIRI, sh_RIRI, sc_RRII, sh_RRII, sc_RRIII, sh_RRIII, sc_RIIRR, sh_RIIRR, sc_RIIIRR, sh_RIIIRR, sc_RIIR, sh_RIIR, sc_RRIIR, sh_RRIIR, sc_RRIIIR, sh_RRIIIR, sc_RRIIIIR, sh_RRIIIIR, sc_RRIR, sh_RRIR, mt_k hN, mt_K hN, mt_T hN, h22, g0, hT]
    refine ⟨fun q => ⟨T', hN, ho, ?_, ?_⟩, fun q => ?_⟩
    · rw [h22, show n = 15 by omega]
    · rw [show n = 15 by omega] at h18; exact h18
    rintro v h1 ⟨hN1, rfl⟩
    have w22 : tu T' 22 0 (drw (xk (T 22 0) (2 * n))) 22 0 = xk (T 22 0) (2 * n + 1) := tu_s
    simp only [mt_k hN1, mt_K hN1, mt_T hN1, w22, g1, ac_ent, ldI, ldR, stI, stR, inc, cI, cJ, cN, bop, oAdd, oSub, oMul, oAnd, oOr, oXor, oShl, oShr, oUshr, oRem, oDiv, oMx, oMn, oI2l, oLcmp, oDup, oDup2, oDupX1, oPop, bIc, bI0, bNul, getI, getR, putI, putZ, putR, aLen, aldI, aldZ, aldJ, aldR, astI, astZ, astJ, astR, nwO, nwA, gsT, oObj, oCpy, oCln, oCst, rtI, rtZ, rtR, rtV, thr, call, callH, ac_hsel, ac_as, ac_rs, ac_cs, ac_rcv, List.map_cons, List.map_nil, List.length_cons, List.length_nil, List.replicate, List.append_nil, List.cons_append, List.nil_append, List.getElem?_cons_zero, List.getElem?_cons_succ, List.set, Nat.zero_add, Nat.add_zero, Nat.le_refl, Nat.reduceAdd, Nat.reduceSub, Nat.reduceLeDiff, Int.reduceLT, Int.reduceLE, Int.reduceNeg, Int.reduceEq, true_and, and_true, true_or, or_true, not_true_eq_false, not_false_eq_true, false_implies, true_implies, implies_true, reduceIte, and_self, Int.reduceAdd, Int.reduceMul, Int.reduceSub, eq_self, Int.add_zero, Int.zero_add, String.reduceEq, Nat.zero_le, Option.some.injEq, Sum.inl.injEq, Sum.inr.injEq, reduceCtorEq, Int.reduceToNat, Option.toList_some, Option.toList_none, ac_cs, ac_c10, ac_c11, ac_c12, ac_c13, ac_c14, ac_c15, ac_c16, ac_c17, sc_E, sh_E, sc_I, sh_I, sc_II, sh_II, sc_III, sh_III, sc_R, sh_R, sc_RI, sh_RI, sc_RII, sh_RII, sc_RIII, sh_RIII, sc_RIIII, sh_RIIII, sc_RR, sh_RR, sc_RRI, sh_RRI, sc_RRR, sh_RRR, sc_RIR, sh_RIR, sc_RIRI, sh_RIRI, sc_RRII, sh_RRII, sc_RRIII, sh_RRIII, sc_RIIRR, sh_RIIRR, sc_RIIIRR, sh_RIIIRR, sc_RIIR, sh_RIIR, sc_RRIIR, sh_RRIIR, sc_RRIIIR, sh_RRIIIR, sc_RRIIIIR, sh_RRIIIIR, sc_RRIR, sh_RRIR]
    rintro v h2 ⟨hN2, rfl⟩
    rw [e1, e2]
    simp only [ac_ent, ldI, ldR, stI, stR, inc, cI, cJ, cN, bop, oAdd, oSub, oMul, oAnd, oOr, oXor, oShl, oShr, oUshr, oRem, oDiv, oMx, oMn, oI2l, oLcmp, oDup, oDup2, oDupX1, oPop, bIc, bI0, bNul, getI, getR, putI, putZ, putR, aLen, aldI, aldZ, aldJ, aldR, astI, astZ, astJ, astR, nwO, nwA, gsT, oObj, oCpy, oCln, oCst, rtI, rtZ, rtR, rtV, thr, call, callH, ac_hsel, ac_as, ac_rs, ac_cs, ac_rcv, List.map_cons, List.map_nil, List.length_cons, List.length_nil, List.replicate, List.append_nil, List.cons_append, List.nil_append, List.getElem?_cons_zero, List.getElem?_cons_succ, List.set, Nat.zero_add, Nat.add_zero, Nat.le_refl, Nat.reduceAdd, Nat.reduceSub, Nat.reduceLeDiff, Int.reduceLT, Int.reduceLE, Int.reduceNeg, Int.reduceEq, true_and, and_true, true_or, or_true, not_true_eq_false, not_false_eq_true, false_implies, true_implies, implies_true, reduceIte, and_self, Int.reduceAdd, Int.reduceMul, Int.reduceSub, eq_self, Int.add_zero, Int.zero_add, String.reduceEq, Nat.zero_le, Option.some.injEq, Sum.inl.injEq, Sum.inr.injEq, reduceCtorEq, Int.reduceToNat, Option.toList_some, Option.toList_none, ac_cs, ac_c10, ac_c11, ac_c12, ac_c13, ac_c14, ac_c15, ac_c16, ac_c17, sc_E, sh_E, sc_I, sh_I, sc_II, sh_II, sc_III, sh_III, sc_R, sh_R, sc_RI, sh_RI, sc_RII, sh_RII, sc_RIII, sh_RIII, sc_RIIII, sh_RIIII, sc_RR, sh_RR, sc_RRI, sh_RRI, sc_RRR, sh_RRR, sc_RIR, sh_RIR, sc_RIRI, sh_RIRI, sc_RRII, sh_RRII, sc_RRIII, sh_RRIII, sc_RIIRR, sh_RIIRR, sc_RIIIRR, sh_RIIIRR, sc_RIIR, sh_RIIR, sc_RRIIR, sh_RRIIR, sc_RRIIIR, sh_RRIIIR, sc_RRIIIIR, sh_RRIIIIR, sc_RRIR, sh_RRIR]
    have pos : 0 < (n : Int) + 1 := by omega
    refine ⟨⟨g1.1, pos⟩, (15 - n) * 100 - 1, by omega, n, 0, _, o8, by omega, by omega, by omega, by omega, fun j j0 j1 => by omega, mt_tr hN (mt_tr hN1 hN2), fun k a b c => by rw [tu_k b, tu_k b, ho k a b c], tu_s, by simp only [tu_k, tu_s, ne_eq, Nat.reduceEqDiff, not_false_eq_true]; exact h18, fun j j0 j1 => by simp only [tu_k, tu_s, ne_eq, Nat.reduceEqDiff, not_false_eq_true]; exact h23 j j0 j1, ?_, rfl, rfl, rfl⟩
    rw [Int.add_zero, Int.emod_emod]
  | 2, hJ =>
    obtain ⟨n, p, T', o8, n1, hm, p0, p1, hp', hN, ho, h22, h18, h23, rfl, rfl, rfl, rfl⟩ := hJ
    have pos : 0 < (n : Int) + 1 := by omega
    have s0 := Int.emod_nonneg (xk (T 22 0) (2 * n + 1)) (show ((n : Int) + 1) ≠ 0 by omega)
    have s1 := Int.emod_lt_of_pos (xk (T 22 0) (2 * n + 1)) pos
    have w0 := Int.emod_nonneg (xk (T 22 0) (2 * n + 1) % ((n : Int) + 1) + p) (show ((n : Int) + 1) ≠ 0 by omega)
    have w1 := Int.emod_lt_of_pos (xk (T 22 0) (2 * n + 1) % ((n : Int) + 1) + p) pos
    have g2 := xk_r hx (2 * n + 2)
    have r01 := gwT_r (D := fun _ => 0) hx he n ((xk (T 22 0) (2 * n + 1) % ((n : Int) + 1) + p) % ((n : Int) + 1))
    have rL := h23 _ w0 (by omega)
    have GG := GI_n (D := fun _ => 0) hx he n (by omega)
    have gne := GI_gwi GG n1 s0 s1 g2.1
    have ci : ((n + 1 : Nat) : Int) = (n : Int) + 1 := rfl
    have TS : gwT (T 22 0) e (fun _ => 0) (n + 1) = gws (gwT (T 22 0) e (fun _ => 0) n) (n + 1) (xk (T 22 0) (2 * n + 1) % ((n : Int) + 1)) (xk (T 22 0) (2 * n + 2)) := rfl
    obtain ⟨Q, hQ⟩ : ∃ Q, gwT (T 22 0) e (fun _ => 0) n = Q := ⟨_, rfl⟩
    simp only [hQ] at hp' h18 h23 r01 rL GG gne TS ⊢
    have bd : (xk (T 22 0) (2 * n + 1) % ((n : Int) + 1) + p) % ((n : Int) + 1) < 16 := by omega
    simp only [spX9_growsWays, vcX9_growsWays, mX9_growsWays, spX9_draws, spX9_toFind, spX9_joins, spX9_beside, ac_ent, ldI, ldR, stI, stR, inc, cI, cJ, cN, bop, oAdd, oSub, oMul, oAnd, oOr, oXor, oShl, oShr, oUshr, oRem, oDiv, oMx, oMn, oI2l, oLcmp, oDup, oDup2, oDupX1, oPop, bIc, bI0, bNul, getI, getR, putI, putZ, putR, aLen, aldI, aldZ, aldJ, aldR, astI, astZ, astJ, astR, nwO, nwA, gsT, oObj, oCpy, oCln, oCst, rtI, rtZ, rtR, rtV, thr, call, callH, ac_hsel, ac_as, ac_rs, ac_cs, ac_rcv, List.map_cons, List.map_nil, List.length_cons, List.length_nil, List.replicate, List.append_nil, List.cons_append, List.nil_append, List.getElem?_cons_zero, List.getElem?_cons_succ, List.set, Nat.zero_add, Nat.add_zero, Nat.le_refl, Nat.reduceAdd, Nat.reduceSub, Nat.reduceLeDiff, Int.reduceLT, Int.reduceLE, Int.reduceNeg, Int.reduceEq, true_and, and_true, true_or, or_true, not_true_eq_false, not_false_eq_true, false_implies, true_implies, implies_true, reduceIte, and_self, Int.reduceAdd, Int.reduceMul, Int.reduceSub, eq_self, Int.add_zero, Int.zero_add, String.reduceEq, Nat.zero_le, Option.some.injEq, Sum.inl.injEq, Sum.inr.injEq, reduceCtorEq, Int.reduceToNat, Option.toList_some, Option.toList_none, ac_cs, ac_c10, ac_c11, ac_c12, ac_c13, ac_c14, ac_c15, ac_c16, ac_c17, sc_E, sh_E, sc_I, sh_I, sc_II, sh_II, sc_III, sh_III, sc_R, sh_R, sc_RI, sh_RI, sc_RII, sh_RII, sc_RIII, sh_RIII, sc_RIIII, sh_RIIII, sc_RR, sh_RR, sc_RRI, sh_RRI, sc_RRR, sh_RRR, sc_RIR, sh_RIR, sc_RIRI, sh_RIRI, sc_RRII, sh_RRII, sc_RRIII, sh_RRIII, sc_RIIRR, sh_RIIRR, sc_RIIIRR, sh_RIIIRR, sc_RIIR, sh_RIIR, sc_RRIIR, sh_RRIIR, sc_RRIIIR, sh_RRIIIR, sc_RRIIIIR, sh_RRIIIIR, sc_RRIR, sh_RRIR, mt_k hN, mr_23 hN, mk_23 hN, ml_23 hN, rL, w0, bd, r01, g2, hT]
    refine ⟨by omega, ?_⟩
    rintro v h1 ⟨rfl, rfl⟩
    simp only [ac_ent, ldI, ldR, stI, stR, inc, cI, cJ, cN, bop, oAdd, oSub, oMul, oAnd, oOr, oXor, oShl, oShr, oUshr, oRem, oDiv, oMx, oMn, oI2l, oLcmp, oDup, oDup2, oDupX1, oPop, bIc, bI0, bNul, getI, getR, putI, putZ, putR, aLen, aldI, aldZ, aldJ, aldR, astI, astZ, astJ, astR, nwO, nwA, gsT, oObj, oCpy, oCln, oCst, rtI, rtZ, rtR, rtV, thr, call, callH, ac_hsel, ac_as, ac_rs, ac_cs, ac_rcv, List.map_cons, List.map_nil, List.length_cons, List.length_nil, List.replicate, List.append_nil, List.cons_append, List.nil_append, List.getElem?_cons_zero, List.getElem?_cons_succ, List.set, Nat.zero_add, Nat.add_zero, Nat.le_refl, Nat.reduceAdd, Nat.reduceSub, Nat.reduceLeDiff, Int.reduceLT, Int.reduceLE, Int.reduceNeg, Int.reduceEq, true_and, and_true, true_or, or_true, not_true_eq_false, not_false_eq_true, false_implies, true_implies, implies_true, reduceIte, and_self, Int.reduceAdd, Int.reduceMul, Int.reduceSub, eq_self, Int.add_zero, Int.zero_add, String.reduceEq, Nat.zero_le, Option.some.injEq, Sum.inl.injEq, Sum.inr.injEq, reduceCtorEq, Int.reduceToNat, Option.toList_some, Option.toList_none, ac_cs, ac_c10, ac_c11, ac_c12, ac_c13, ac_c14, ac_c15, ac_c16, ac_c17, sc_E, sh_E, sc_I, sh_I, sc_II, sh_II, sc_III, sh_III, sc_R, sh_R, sc_RI, sh_RI, sc_RII, sh_RII, sc_RIII, sh_RIII, sc_RIIII, sh_RIIII, sc_RR, sh_RR, sc_RRI, sh_RRI, sc_RRR, sh_RRR, sc_RIR, sh_RIR, sc_RIRI, sh_RIRI, sc_RRII, sh_RRII, sc_RRIII, sh_RRIII, sc_RIIRR, sh_RIIRR, sc_RIIIRR, sh_RIIIRR, sc_RIIR, sh_RIIR, sc_RRIIR, sh_RRIIR, sc_RRIIIR, sh_RRIIIR, sc_RRIIIIR, sh_RRIIIIR, sc_RRIR, sh_RRIR]
    refine ⟨fun q => ?_, fun q => ?_⟩
    · simp (disch := omega) only [wr_of]
      have lt : p < n := by
        by_cases c : p < n
        · exact c
        · exfalso
          apply gne
          refine fnd_none fun j j0 j1 => decide_eq_false fun w => w ?_
          rw [ci] at j1 ⊢
          by_cases c2 : j = p
          · rw [c2]; exact q
          · exact hp' j j0 (by omega)
      subst hQ
      refine ⟨by omega, mm - 1, by omega, n, p + 1, T', o8, n1, by omega, by omega, by omega, fun j j0 j1 => ?_, hN, ho, h22, h18, h23, ?_, rfl, rfl, rfl⟩
      · by_cases c2 : j = p
        · rw [c2]; exact q
        · exact hp' j j0 (by omega)
      · rw [md1, Int.add_assoc]
    · obtain ⟨d0, d1, d2, d3⟩ := d2n_ok q g2.1
      have gi : gwi Q.1 Q.2.1 (xk (T 22 0) (2 * n + 1) % ((n : Int) + 1)) (xk (T 22 0) (2 * n + 2)) (n + 1) = p := by
        refine fnd_some p0 (by rw [ci]; omega) ?_ fun j j0 j1 => ?_
        · rw [ci]; exact decide_eq_true q
        · rw [ci]; simp only [hp' j j0 j1, ne_eq, not_true_eq_false, decide_false]
      have TS3 := TS
      rw [gws, gi, if_neg (by omega), ci] at TS3
      dsimp only at TS3
      simp only [mt_k hN, mr_23 hN, mk_23 hN, ml_23 hN, mt_K hN, mt_T hN, rL, w0, bd, r01, g2, ac_ent, ldI, ldR, stI, stR, inc, cI, cJ, cN, bop, oAdd, oSub, oMul, oAnd, oOr, oXor, oShl, oShr, oUshr, oRem, oDiv, oMx, oMn, oI2l, oLcmp, oDup, oDup2, oDupX1, oPop, bIc, bI0, bNul, getI, getR, putI, putZ, putR, aLen, aldI, aldZ, aldJ, aldR, astI, astZ, astJ, astR, nwO, nwA, gsT, oObj, oCpy, oCln, oCst, rtI, rtZ, rtR, rtV, thr, call, callH, ac_hsel, ac_as, ac_rs, ac_cs, ac_rcv, List.map_cons, List.map_nil, List.length_cons, List.length_nil, List.replicate, List.append_nil, List.cons_append, List.nil_append, List.getElem?_cons_zero, List.getElem?_cons_succ, List.set, Nat.zero_add, Nat.add_zero, Nat.le_refl, Nat.reduceAdd, Nat.reduceSub, Nat.reduceLeDiff, Int.reduceLT, Int.reduceLE, Int.reduceNeg, Int.reduceEq, true_and, and_true, true_or, or_true, not_true_eq_false, not_false_eq_true, false_implies, true_implies, implies_true, reduceIte, and_self, Int.reduceAdd, Int.reduceMul, Int.reduceSub, eq_self, Int.add_zero, Int.zero_add, String.reduceEq, Nat.zero_le, Option.some.injEq, Sum.inl.injEq, Sum.inr.injEq, reduceCtorEq, Int.reduceToNat, Option.toList_some, Option.toList_none, ac_cs, ac_c10, ac_c11, ac_c12, ac_c13, ac_c14, ac_c15, ac_c16, ac_c17, sc_E, sh_E, sc_I, sh_I, sc_II, sh_II, sc_III, sh_III, sc_R, sh_R, sc_RI, sh_RI, sc_RII, sh_RII, sc_RIII, sh_RIII, sc_RIIII, sh_RIIII, sc_RR, sh_RR, sc_RRI, sh_RRI, sc_RRR, sh_RRR, sc_RIR, sh_RIR, sc_RIRI, sh_RIRI, sc_RRII, sh_RRII, sc_RRIII, sh_RRIII, sc_RIIRR, sh_RIIRR, sc_RIIIRR, sh_RIIIRR, sc_RIIR, sh_RIIR, sc_RRIIR, sh_RRIIR, sc_RRIIIR, sh_RRIIIR, sc_RRIIIIR, sh_RRIIIIR, sc_RRIR, sh_RRIR]
      refine ⟨by omega, ?_⟩
      rintro v h1 ⟨rfl, rfl⟩
      have nn := (nb_r (d := d2n (Q.1 ((xk (T 22 0) (2 * n + 1) % ((n : Int) + 1) + p) % ((n : Int) + 1))) (xk (T 22 0) (2 * n + 2)) Q.2.1) r01.1 r01.2).resolve_left d2
      simp only [mt_k hN, mr_23 hN, mk_23 hN, ml_23 hN, mt_K hN, mt_T hN, rL, w0, bd, r01, hb, d0, d1, d2, ne_eq, ac_ent, ldI, ldR, stI, stR, inc, cI, cJ, cN, bop, oAdd, oSub, oMul, oAnd, oOr, oXor, oShl, oShr, oUshr, oRem, oDiv, oMx, oMn, oI2l, oLcmp, oDup, oDup2, oDupX1, oPop, bIc, bI0, bNul, getI, getR, putI, putZ, putR, aLen, aldI, aldZ, aldJ, aldR, astI, astZ, astJ, astR, nwO, nwA, gsT, oObj, oCpy, oCln, oCst, rtI, rtZ, rtR, rtV, thr, call, callH, ac_hsel, ac_as, ac_rs, ac_cs, ac_rcv, List.map_cons, List.map_nil, List.length_cons, List.length_nil, List.replicate, List.append_nil, List.cons_append, List.nil_append, List.getElem?_cons_zero, List.getElem?_cons_succ, List.set, Nat.zero_add, Nat.add_zero, Nat.le_refl, Nat.reduceAdd, Nat.reduceSub, Nat.reduceLeDiff, Int.reduceLT, Int.reduceLE, Int.reduceNeg, Int.reduceEq, true_and, and_true, true_or, or_true, not_true_eq_false, not_false_eq_true, false_implies, true_implies, implies_true, reduceIte, and_self, Int.reduceAdd, Int.reduceMul, Int.reduceSub, eq_self, Int.add_zero, Int.zero_add, String.reduceEq, Nat.zero_le, Option.some.injEq, Sum.inl.injEq, Sum.inr.injEq, reduceCtorEq, Int.reduceToNat, Option.toList_some, Option.toList_none, ac_cs, ac_c10, ac_c11, ac_c12, ac_c13, ac_c14, ac_c15, ac_c16, ac_c17, sc_E, sh_E, sc_I, sh_I, sc_II, sh_II, sc_III, sh_III, sc_R, sh_R, sc_RI, sh_RI, sc_RII, sh_RII, sc_RIII, sh_RIII, sc_RIIII, sh_RIIII, sc_RR, sh_RR, sc_RRI, sh_RRI, sc_RRR, sh_RRR, sc_RIR, sh_RIR, sc_RIRI, sh_RIRI, sc_RRII, sh_RRII, sc_RRIII, sh_RRIII, sc_RIIRR, sh_RIIRR, sc_RIIIRR, sh_RIIIRR, sc_RIIR, sh_RIIR, sc_RRIIR, sh_RRIIR, sc_RRIIIR, sh_RRIIIR, sc_RRIIIIR, sh_RRIIIIR, sc_RRIR, sh_RRIR]
      rintro v h2 ⟨rfl, f', hN2, hrw⟩
      have rL2 : (if (23 : Nat) = 18 then f' else T' 23) ((xk (T 22 0) (2 * n + 1) % ((n : Int) + 1) + p) % ((n : Int) + 1)) = Q.1 ((xk (T 22 0) (2 * n + 1) % ((n : Int) + 1) + p) % ((n : Int) + 1)) := rL
      simp only [mt_k hN2, mr_23 hN2, mk_23 hN2, ml_23 hN2, mt_K hN2, mt_T hN2, rL2, w0, bd, r01, d0, d1, ac_ent, ldI, ldR, stI, stR, inc, cI, cJ, cN, bop, oAdd, oSub, oMul, oAnd, oOr, oXor, oShl, oShr, oUshr, oRem, oDiv, oMx, oMn, oI2l, oLcmp, oDup, oDup2, oDupX1, oPop, bIc, bI0, bNul, getI, getR, putI, putZ, putR, aLen, aldI, aldZ, aldJ, aldR, astI, astZ, astJ, astR, nwO, nwA, gsT, oObj, oCpy, oCln, oCst, rtI, rtZ, rtR, rtV, thr, call, callH, ac_hsel, ac_as, ac_rs, ac_cs, ac_rcv, List.map_cons, List.map_nil, List.length_cons, List.length_nil, List.replicate, List.append_nil, List.cons_append, List.nil_append, List.getElem?_cons_zero, List.getElem?_cons_succ, List.set, Nat.zero_add, Nat.add_zero, Nat.le_refl, Nat.reduceAdd, Nat.reduceSub, Nat.reduceLeDiff, Int.reduceLT, Int.reduceLE, Int.reduceNeg, Int.reduceEq, true_and, and_true, true_or, or_true, not_true_eq_false, not_false_eq_true, false_implies, true_implies, implies_true, reduceIte, and_self, Int.reduceAdd, Int.reduceMul, Int.reduceSub, eq_self, Int.add_zero, Int.zero_add, String.reduceEq, Nat.zero_le, Option.some.injEq, Sum.inl.injEq, Sum.inr.injEq, reduceCtorEq, Int.reduceToNat, Option.toList_some, Option.toList_none, ac_cs, ac_c10, ac_c11, ac_c12, ac_c13, ac_c14, ac_c15, ac_c16, ac_c17, sc_E, sh_E, sc_I, sh_I, sc_II, sh_II, sc_III, sh_III, sc_R, sh_R, sc_RI, sh_RI, sc_RII, sh_RII, sc_RIII, sh_RIII, sc_RIIII, sh_RIIII, sc_RR, sh_RR, sc_RRI, sh_RRI, sc_RRR, sh_RRR, sc_RIR, sh_RIR, sc_RIRI, sh_RIRI, sc_RRII, sh_RRII, sc_RRIII, sh_RRIII, sc_RIIRR, sh_RIIRR, sc_RIIIRR, sh_RIIIRR, sc_RIIR, sh_RIIR, sc_RRIIR, sh_RRIIR, sc_RRIIIR, sh_RRIIIR, sc_RRIIIIR, sh_RRIIIIR, sc_RRIR, sh_RRIR]
      rintro v h3 ⟨rfl, rfl⟩
      have hN3 := mt_a 23 hN2 (by decide) rfl (j := (n : Int) + 1) (v := nb (Q.1 ((xk (T 22 0) (2 * n + 1) % ((n : Int) + 1) + p) % ((n : Int) + 1))) (d2n (Q.1 ((xk (T 22 0) (2 * n + 1) % ((n : Int) + 1) + p) % ((n : Int) + 1))) (xk (T 22 0) (2 * n + 2)) Q.2.1))
      simp only [mt_k hN2, mr_23 hN2, mk_23 hN2, ml_23 hN2, up_k, ast_k, up_kf, ast_kf, ne_eq, Nat.reduceEqDiff, not_false_eq_true, up_self, ac_ent, ldI, ldR, stI, stR, inc, cI, cJ, cN, bop, oAdd, oSub, oMul, oAnd, oOr, oXor, oShl, oShr, oUshr, oRem, oDiv, oMx, oMn, oI2l, oLcmp, oDup, oDup2, oDupX1, oPop, bIc, bI0, bNul, getI, getR, putI, putZ, putR, aLen, aldI, aldZ, aldJ, aldR, astI, astZ, astJ, astR, nwO, nwA, gsT, oObj, oCpy, oCln, oCst, rtI, rtZ, rtR, rtV, thr, call, callH, ac_hsel, ac_as, ac_rs, ac_cs, ac_rcv, List.map_cons, List.map_nil, List.length_cons, List.length_nil, List.replicate, List.append_nil, List.cons_append, List.nil_append, List.getElem?_cons_zero, List.getElem?_cons_succ, List.set, Nat.zero_add, Nat.add_zero, Nat.le_refl, Nat.reduceAdd, Nat.reduceSub, Nat.reduceLeDiff, Int.reduceLT, Int.reduceLE, Int.reduceNeg, Int.reduceEq, true_and, and_true, true_or, or_true, not_true_eq_false, not_false_eq_true, false_implies, true_implies, implies_true, reduceIte, and_self, Int.reduceAdd, Int.reduceMul, Int.reduceSub, eq_self, Int.add_zero, Int.zero_add, String.reduceEq, Nat.zero_le, Option.some.injEq, Sum.inl.injEq, Sum.inr.injEq, reduceCtorEq, Int.reduceToNat, Option.toList_some, Option.toList_none, ac_cs, ac_c10, ac_c11, ac_c12, ac_c13, ac_c14, ac_c15, ac_c16, ac_c17, sc_E, sh_E, sc_I, sh_I, sc_II, sh_II, sc_III, sh_III, sc_R, sh_R, sc_RI, sh_RI, sc_RII, sh_RII, sc_RIII, sh_RIII, sc_RIIII, sh_RIIII, sc_RR, sh_RR, sc_RRI, sh_RRI, sc_RRR, sh_RRR, sc_RIR, sh_RIR, sc_RIRI, sh_RIRI, sc_RRII, sh_RRII, sc_RRIII, sh_RRIII, sc_RIIRR, sh_RIIRR, sc_RIIIRR, sh_RIIIRR, sc_RIIR, sh_RIIR, sc_RRIIR, sh_RRIIR, sc_RRIIIR, sh_RRIIIR, sc_RRIIIIR, sh_RRIIIIR, sc_RRIR, sh_RRIR]
      simp (disch := omega) only [wr_of]
      refine ⟨⟨by omega, by omega⟩, ⟨by omega, by omega⟩, (15 - (n + 1)) * 100, by omega, n + 1, _, _, _, _, _, by omega, by omega, mt_tr hN hN3, fun k a b c => ?_, ?_, ?_, fun j j0 j1 => ?_, by rw [TS3]; rfl, rfl, rfl, rfl⟩
      · rw [tu_k c]
        show (if k = 18 then f' else T' k) = T k
        rw [if_neg a]
        exact ho k a b c
      · rw [tu_k (by decide)]
        exact h22
      · rw [tu_k (by decide)]
        show rwo f' (T 18) b _
        rw [TS3]
        exact rwo_tr h18 (rwo_cg hrw fun j j0 j1 => dopn_congr r01.1 r01.2 (rwo_ro h18) j j0 j1)
      · rw [TS3]
        show tu (fun k => if k = 18 then f' else T' k) 23 ((n : Int) + 1) _ 23 j = fu Q.1 ((n : Int) + 1) _ j
        unfold fu
        by_cases c : j = (n : Int) + 1
        · rw [if_pos c, c, tu_s]
        · rw [if_neg c, tu_n c]
          exact h23 j j0 (by omega)
  | j + 3, hJ => exact hJ.elim
