/-! ===== what always holds of the state: each call ===== -/
theorem SI_0 : SI (fun _ _ _ => 0) := by
  refine ⟨⟨?_, ?_⟩, fun p p0 p1 => ⟨?_, ?_⟩, fun p p0 p1 => ⟨rfl, rfl⟩, fun p i p0 p1 => ?_, ⟨?_, ?_⟩, ⟨?_, ?_⟩, ⟨?_, ?_⟩, fun j j0 j1 => ?_, ⟨?_, ?_⟩, fun d d0 d1 => ?_, fun d f d0 d1 => ?_, ⟨?_, ?_⟩, fun r r0 r1 => ?_⟩
  all_goals first | decide | (dsimp only at *; omega)
theorem SI_pack {s : sS} (hS : SI s) (hc : cdPack s = 0) : SI (FPack s) := by
  obtain ⟨s1, s2, s3, s4, s5, s6, s7, s8, s9, s10, s11, s12, s13⟩ := hS
  have c : s 0 0 0 ≠ 10 := fun q => by unfold cdPack at hc; rw [if_pos q] at hc; exact absurd hc (by decide)
  have e : FPack s 0 0 0 = s 0 0 0 + 1 := us_s
  have ek : ∀ k, k ≠ 0 → FPack s k = s k := fun k h => us_k h
  simp only [SI, entS, e, ek, ne_eq, Nat.reduceEqDiff, not_false_eq_true]
  refine ⟨by omega, s2, fun p p0 p1 => s3 p (by omega) p1, fun p i p0 p1 i0 i1 => ?_, s5, s6, s7, s8, s9, s10, s11, s12, s13⟩
  by_cases q : p < s 0 0 0
  · exact s4 p i p0 q i0 i1
  · have := (s3 p (by omega) (by omega)).1
    omega
theorem tbz_b {r : Int} (h : 0 ≤ r ∧ r < 6) : 0 ≤ ac_tbz 1 r ∧ ac_tbz 2 r ≤ 50 := by
  rcases six_c h with rfl | rfl | rfl | rfl | rfl | rfl <;> decide
theorem SI_change {s : sS} {p r b n : Int} (hS : SI s) (hb : b = 0 ∨ b = 1) (hc : cdChange p r b n s = 0) : SI (FChange p r b n s) := by
  obtain ⟨s1, s2, s3, s4, s5, s6, s7, s8, s9, s10, s11, s12, s13⟩ := hS
  have c : ((0 ≤ p ∧ p < s 0 0 0) ∧ 0 ≤ r ∧ r < 6) ∧ inRb b r n ∧ s 1 p 0 ≠ 4 := by
    unfold cdChange at hc
    by_cases q1 : (0 ≤ p ∧ p < s 0 0 0) ∧ 0 ≤ r ∧ r < 6
    · rw [if_pos q1] at hc
      by_cases q2 : inRb b r n
      · rw [if_pos q2] at hc
        by_cases q3 : s 1 p 0 = 4
        · rw [if_pos q3] at hc; exact absurd hc (by decide)
        · exact ⟨q1, q2, q3⟩
      · rw [if_neg q2] at hc; exact absurd hc (by decide)
    · rw [if_neg q1] at hc; exact absurd hc (by decide)
  obtain ⟨⟨cp, cr⟩, cn, c4⟩ := c
  have tb := tbz_b cr
  have nr : -20 ≤ n ∧ n ≤ 50 := by
    rcases cn with w | w
    · omega
    · omega
  have sp := s2 p cp.1 (by omega)
  have ek : ∀ k, k ≠ 1 → k ≠ 2 → k ≠ 3 → k ≠ 4 → FChange p r b n s k = s k := fun k h1 h2 h3 h4 => by unfold FChange; rw [us_k h1, us_k h4, us_k h3, us_k h2]
  have e1 : ∀ q, FChange p r b n s 1 q 0 = if q = p then s 1 p 0 + 1 else s 1 q 0 := fun q => by
    unfold FChange
    by_cases w : q = p
    · rw [if_pos w, w, us_s]
    · rw [if_neg w, us_n (by omega)]
      simp only [us_k, uf_k, ne_eq, Nat.reduceEqDiff, not_false_eq_true]
  have e2 : ∀ q i, FChange p r b n s 2 q i = if q = p ∧ i = s 1 p 0 then r else s 2 q i := fun q i => by
    unfold FChange
    simp only [us_k, uf_k, ne_eq, Nat.reduceEqDiff, not_false_eq_true]
    by_cases w : q = p ∧ i = s 1 p 0
    · rw [if_pos w, w.1, w.2, us_s]
    · rw [if_neg w, us_n w]
  have e3 : ∀ q i, FChange p r b n s 3 q i = if q = p ∧ i = s 1 p 0 then b else s 3 q i := fun q i => by
    unfold FChange
    simp only [us_k, uf_k, ne_eq, Nat.reduceEqDiff, not_false_eq_true]
    by_cases w : q = p ∧ i = s 1 p 0
    · rw [if_pos w, w.1, w.2, us_s]
    · rw [if_neg w, us_n w]
      simp only [us_k, uf_k, ne_eq, Nat.reduceEqDiff, not_false_eq_true]
  have e4 : ∀ q i, FChange p r b n s 4 q i = if q = p ∧ i = s 1 p 0 then n else s 4 q i := fun q i => by
    unfold FChange
    simp only [us_k, uf_k, ne_eq, Nat.reduceEqDiff, not_false_eq_true]
    by_cases w : q = p ∧ i = s 1 p 0
    · rw [if_pos w, w.1, w.2, us_s]
    · rw [if_neg w, us_n w]
      simp only [us_k, uf_k, ne_eq, Nat.reduceEqDiff, not_false_eq_true]
  simp only [SI, entS, ek, e1, e2, e3, e4, ne_eq, Nat.reduceEqDiff, not_false_eq_true]
  refine ⟨s1, fun q q0 q1 => ?_, fun q q0 q1 => ?_, fun q i q0 q1 i0 i1 => ?_, s5, s6, s7, s8, s9, s10, s11, s12, s13⟩
  · have := s2 q q0 q1
    split <;> omega
  · rw [if_neg (by omega)]
    exact s3 q q0 q1
  · by_cases w : q = p ∧ i = s 1 p 0
    · rw [if_pos w, if_pos w, if_pos w]
      exact ⟨cr.1, cr.2, hb, nr.1, nr.2⟩
    · rw [if_neg w, if_neg w, if_neg w]
      refine s4 q i q0 q1 i0 ?_
      by_cases w2 : q = p
      · rw [if_pos w2] at i1
        rw [w2]
        omega
      · rw [if_neg w2] at i1
        exact i1
theorem SI_mend {s : sS} {p : Int} (hS : SI s) (hc : cdMend p s = 0) : SI (FMend p s) := by
  obtain ⟨s1, s2, s3, s4, s5, s6, s7, s8, s9, s10, s11, s12, s13⟩ := hS
  have c : (0 ≤ p ∧ p < s 0 0 0) ∧ s 1 p 0 ≠ 0 := by
    unfold cdMend at hc
    by_cases q1 : 0 ≤ p ∧ p < s 0 0 0
    · rw [if_pos q1] at hc
      by_cases q3 : s 1 p 0 = 0
      · rw [if_pos q3] at hc; exact absurd hc (by decide)
      · exact ⟨q1, q3⟩
    · rw [if_neg q1] at hc; exact absurd hc (by decide)
  have sp := s2 p c.1.1 (by omega)
  have ek : ∀ k, k ≠ 1 → FMend p s k = s k := fun k h => us_k h
  have e1 : ∀ q, FMend p s 1 q 0 = if q = p then s 1 p 0 - 1 else s 1 q 0 := fun q => by
    unfold FMend
    by_cases w : q = p
    · rw [if_pos w, w, us_s]
    · rw [if_neg w, us_n (by omega)]
  simp only [SI, entS, ek, e1, ne_eq, Nat.reduceEqDiff, not_false_eq_true]
  refine ⟨s1, fun q q0 q1 => ?_, fun q q0 q1 => ?_, fun q i q0 q1 i0 i1 => ?_, s5, s6, s7, s8, s9, s10, s11, s12, s13⟩
  · have := s2 q q0 q1
    split <;> omega
  · rw [if_neg (by omega)]
    exact s3 q q0 q1
  · refine s4 q i q0 q1 i0 ?_
    by_cases w : q = p
    · rw [if_pos w] at i1; rw [w]; omega
    · rw [if_neg w] at i1; exact i1
theorem SI_needs {s : sS} {p set : Int} (hS : SI s) (hc : cdNeeds p set s = 0) : SI (FNeeds p set s) := by
  obtain ⟨s1, s2, s3, s4, s5, s6, s7, s8, s9, s10, s11, s12, s13⟩ := hS
  have c : 0 ≤ p ∧ p < s 0 0 0 := by
    unfold cdNeeds at hc
    by_cases q1 : 0 ≤ p ∧ p < s 0 0 0
    · exact q1
    · rw [if_neg q1] at hc; exact absurd hc (by decide)
  have ek : ∀ k, k ≠ 5 → FNeeds p set s k = s k := fun k h => us_k h
  have e1 : ∀ q, q ≠ p → FNeeds p set s 5 q 0 = s 5 q 0 := fun q w => us_n (by omega)
  simp only [SI, entS, ek, ne_eq, Nat.reduceEqDiff, not_false_eq_true]
  refine ⟨s1, s2, fun q q0 q1 => ?_, s4, s5, s6, s7, s8, s9, s10, s11, s12, s13⟩
  rw [e1 q (by omega)]
  exact s3 q q0 q1
theorem SI_open {s : sS} {seed set : Int} (hS : SI s) (hc : cdOpen seed set s = 0) : SI (FOpen seed set s) := by
  obtain ⟨s1, s2, s3, s4, s5, s6, s7, s8, s9, s10, s11, s12, s13⟩ := hS
  have c : (0 ≤ seed ∧ seed ≤ 65535) ∧ s 6 0 0 < 30 := by
    unfold cdOpen at hc
    by_cases q1 : (0 ≤ seed ∧ seed ≤ 65535) ∧ hasA set s
    · rw [if_pos q1] at hc
      by_cases q3 : psb s set ∧ s 6 0 0 < 30
      · exact ⟨q1.1, q3.2⟩
      · rw [if_neg q3] at hc; exact absurd hc (by decide)
    · rw [if_neg q1] at hc; exact absurd hc (by decide)
  have ek : ∀ k, k ≠ 6 → k ≠ 7 → k ≠ 8 → FOpen seed set s k = s k := fun k h1 h2 h3 => by unfold FOpen; rw [us_k h1, us_k h3, us_k h2]
  have e6 : FOpen seed set s 6 0 0 = s 6 0 0 + 1 := us_s
  have e7 : FOpen seed set s 7 0 0 = seed := by unfold FOpen; simp only [us_k, uf_k, ne_eq, Nat.reduceEqDiff, not_false_eq_true]; exact us_s
  simp only [SI, entS, ek, e6, e7, ne_eq, Nat.reduceEqDiff, not_false_eq_true]
  exact ⟨s1, s2, s3, s4, by omega, c.1, s7, s8, s9, s10, s11, s12, s13⟩
theorem SI_key {s : sS} {c : Int} (hS : SI s) (hc : cdKey c s = 0) : SI (FKey c s) := by
  obtain ⟨s1, s2, s3, s4, s5, s6, s7, s8, s9, s10, s11, s12, s13⟩ := hS
  have cc : (0 ≤ c ∧ c < 6) ∧ s 9 0 0 < 60 := by
    unfold cdKey at hc
    by_cases q1 : 0 ≤ c ∧ c < 6
    · rw [if_pos q1] at hc
      by_cases q3 : s 9 0 0 < 60
      · exact ⟨q1, q3⟩
      · rw [if_neg q3] at hc; exact absurd hc (by decide)
    · rw [if_neg q1] at hc; exact absurd hc (by decide)
  have ek : ∀ k, k ≠ 9 → k ≠ 10 → FKey c s k = s k := fun k h1 h2 => by unfold FKey; rw [us_k h1, us_k h2]
  have e9 : FKey c s 9 0 0 = s 9 0 0 + 1 := us_s
  have e10 : ∀ j, FKey c s 10 0 j = if j = s 9 0 0 then c else s 10 0 j := fun j => by
    unfold FKey
    simp only [us_k, uf_k, ne_eq, Nat.reduceEqDiff, not_false_eq_true]
    by_cases w : j = s 9 0 0
    · rw [if_pos w, w, us_s]
    · rw [if_neg w, us_n (by omega)]
  simp only [SI, entS, ek, e9, e10, ne_eq, Nat.reduceEqDiff, not_false_eq_true]
  refine ⟨s1, s2, s3, s4, s5, s6, by omega, fun j j0 j1 => ?_, s9, s10, s11, s12, s13⟩
  by_cases w : j = s 9 0 0
  · rw [if_pos w]; exact cc.1
  · rw [if_neg w]; exact s8 j j0 (by omega)
theorem SI_wipe {s : sS} (hS : SI s) : SI (FWipe s) := by
  obtain ⟨s1, s2, s3, s4, s5, s6, s7, s8, s9, s10, s11, s12, s13⟩ := hS
  have ek : ∀ k, k ≠ 9 → FWipe s k = s k := fun k h1 => us_k h1
  have e9 : FWipe s 9 0 0 = 0 := us_s
  simp only [SI, entS, ek, e9, ne_eq, Nat.reduceEqDiff, not_false_eq_true]
  exact ⟨s1, s2, s3, s4, s5, s6, by omega, fun j j0 j1 => by omega, s9, s10, s11, s12, s13⟩
theorem SI_judge {s : sS} {r : Int} (hS : SI s) : SI (FJudge r s) := by
  have ek : ∀ k, k ≠ 24 → FJudge r s k = s k := fun k h1 => us_k h1
  simp only [SI, entS, ek, ne_eq, Nat.reduceEqDiff, not_false_eq_true]
  exact hS
theorem SI_dun {s : sS} (hS : SI s) (hc : s 11 0 0 < 20) : SI (FDun s) := by
  obtain ⟨s1, s2, s3, s4, s5, s6, s7, s8, s9, s10, s11, s12, s13⟩ := hS
  have f : ∀ k, k < 11 ∨ 17 < k → FDun s k = s k := fun k => FDun_k
  have hs : 0 ≤ s 7 0 0 ∧ s 7 0 0 < 65537 := by omega
  refine ⟨?_, ?_, ?_, ?_, ?_, ?_, ?_, ?_, ?_, fun d d0 d1 => ?_, fun d g d0 d1 g0 g1 => ?_, ?_, fun r r0 r1 => ?_⟩
  · rw [f 0 (by decide)]; exact s1
  · rw [f 1 (by decide)]; exact s2
  · rw [f 0 (by decide), f 1 (by decide), f 5 (by decide)]; exact s3
  · rw [f 0 (by decide), f 1 (by decide), f 2 (by decide), f 3 (by decide), f 4 (by decide)]; exact s4
  · rw [f 6 (by decide)]; exact s5
  · rw [f 7 (by decide)]; exact s6
  · rw [f 9 (by decide)]; exact s7
  · rw [f 9 (by decide), f 10 (by decide)]; exact s8
  · rw [FDun_11]; omega
  · rw [FDun_11] at d1
    by_cases q : d = s 11 0 0
    · obtain ⟨n1, n2⟩ := FDun_n (s := s)
      rw [q, n1, n2]
      exact ⟨s6, tdR_r s⟩
    · obtain ⟨n1, n2⟩ := FDun_o (s := s) (d := d) (by omega)
      rw [n1, n2]
      exact s10 d d0 (by omega)
  · rw [FDun_11] at d1
    by_cases q : d = s 11 0 0
    · have e : ((g.toNat : Nat) : Int) = g := Int.toNat_of_nonneg g0
      obtain ⟨n1, n2, n3, n4, n5⟩ := FDun_fn (s := s) (f := g.toNat) (by omega)
      rw [e] at n1 n4 n5
      rw [q, n1, n4, n5]
      obtain ⟨gx, ge⟩ := gxe_r (R := tdR s) hs g.toNat
      obtain ⟨gx1, ge1⟩ := gxe_r (R := tdR s) hs (g.toNat + 1)
      have w := fD_ok (R := tdR s) gx ge
      exact ⟨w.1, ge1.1, ge1.2, w.2⟩
    · obtain ⟨n1, n2, n3, n4⟩ := FDun_fo (s := s) (q := 3 * d + g) (by omega)
      rw [n1, n4, ent_o (by omega) g1]
      exact s11 d g d0 (by omega) g0 g1
  · rw [f 18 (by decide)]; exact s12
  · rw [f 18 (by decide)] at r1
    rw [f 21 (by decide), f 23 (by decide), f 20 (by decide), f 22 (by decide), FDun_11]
    obtain ⟨a1, a2, a3, a4, a5⟩ := s13 r r0 r1
    exact ⟨a1, ⟨a2.1, by omega⟩, a3, a4, a5⟩
theorem SI_run {s : sS} {p c d : Int} (hS : SI s) (hc : -100 ≤ c ∧ c ≤ 1000) (h18 : s 18 0 0 < 60) (hd : 0 ≤ d ∧ d < s 11 0 0) : SI (FRun p c d s) := by
  obtain ⟨s1, s2, s3, s4, s5, s6, s7, s8, s9, s10, s11, s12, s13⟩ := hS
  have f : ∀ k, k ≠ 9 ∧ (k < 18 ∨ 24 < k) → FRun p c d s k = s k := fun k => FRun_k
  obtain ⟨r18, r9, r19, r22, r23, r24, r21, r20⟩ := FRun_n (p := p) (c := c) (d := d) (s := s)
  refine ⟨?_, ?_, ?_, ?_, ?_, ?_, ?_, fun j j0 j1 => ?_, ?_, ?_, ?_, ?_, fun r r0 r1 => ?_⟩
  · rw [f 0 (by decide)]; exact s1
  · rw [f 1 (by decide)]; exact s2
  · rw [f 0 (by decide), f 1 (by decide), f 5 (by decide)]; exact s3
  · rw [f 0 (by decide), f 1 (by decide), f 2 (by decide), f 3 (by decide), f 4 (by decide)]; exact s4
  · rw [f 6 (by decide)]; exact s5
  · rw [f 7 (by decide)]; exact s6
  · rw [r9]; omega
  · rw [r9] at j1; omega
  · rw [f 11 (by decide)]; exact s9
  · rw [f 11 (by decide), f 12 (by decide), f 13 (by decide)]; exact s10
  · unfold entS
    rw [f 11 (by decide), f 14 (by decide), f 17 (by decide)]; exact s11
  · rw [r18]; omega
  · rw [r18] at r1
    rw [f 11 (by decide)]
    by_cases q : r = s 18 0 0
    · rw [q, r21, r23, r22]
      refine ⟨s7, hd, fun k k0 k1 => ?_, hc.1, hc.2⟩
      rw [r20 k]; exact s8 k k0 k1
    · have g : ∀ k j, k ≠ 9 ∧ k ≠ 18 → FRun p c d s k r j = s k r j := fun k j hk => FRun_o q hk
      rw [g 21 0 (by decide), g 23 0 (by decide), g 22 0 (by decide)]
      obtain ⟨a1, a2, a3, a4⟩ := s13 r r0 (by omega)
      exact ⟨a1, a2, fun k k0 k1 => by rw [g 20 k (by decide)]; exact a3 k k0 k1, a4⟩
theorem SI_hand {s : sS} {p c : Int} (hS : SI s) (hc : cdHand p c s = 0) : SI (FHand p c s) := by
  have cc : (-100 ≤ c ∧ c ≤ 1000) ∧ s 18 0 0 < 60 ∧ drD s ≠ -1 := by
    unfold cdHand at hc
    by_cases q1 : 0 ≤ p ∧ p < 8
    · rw [if_pos q1] at hc
      by_cases q2 : -100 ≤ c ∧ c ≤ 1000
      · rw [if_pos q2] at hc
        by_cases q3 : s 18 0 0 < 60 ∧ drD s ≠ -1
        · exact ⟨q2, q3⟩
        · rw [if_neg q3] at hc; exact absurd hc (by decide)
      · rw [if_neg q2] at hc; exact absurd hc (by decide)
    · rw [if_neg q1] at hc; exact absurd hc (by decide)
  obtain ⟨c1, c2, c3⟩ := cc
  have h11 := hS.2.2.2.2.2.2.2.2.1
  unfold FHand
  by_cases q : tdO s ∧ tdD s = -1 ∧ s 11 0 0 < 20
  · obtain ⟨f1, f2⟩ := FDR_y q
    rw [f1, f2]
    exact SI_run (SI_dun hS q.2.2) c1 (by rw [FDun_k (by omega)]; exact c2) (by rw [FDun_11]; omega)
  · obtain ⟨f1, f2⟩ := FDR_n q
    rw [f2] at c3
    rw [f1, f2]
    refine SI_run hS c1 c2 ?_
    have tr := tdD_r s
    by_cases w : tdO s
    · rw [if_pos w] at c3 ⊢
      omega
    · rw [if_neg w] at c3; exact absurd rfl c3
