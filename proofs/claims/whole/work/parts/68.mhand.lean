/-! ===== the model: handIn ===== -/
theorem TS_dun {T T3 U : mT} {s : sS} {d : Int} (hT : TS T s) (hS : SI s) (hU : ∀ k, scr k = false → k ≠ 15 → U k = T k) (u15 : U 15 0 = d + 1) (hd : d = T 15 0) (hq : ∀ j, 0 ≤ j → j < 6 → U 12 j = tdR s j) (x8 : U 8 (U 7 0 - 1) = s 7 0 0)
    (ho : ∀ k, k < 16 ∨ 24 < k → T3 k = U k) (hH : GH U d T3 6) (hA : GA T3 d (s 7 0 0) (U 12) 3) (hO : GO U d T3 3 3) : TS T3 (FDun s) := by
  have e : ∀ k, scr k = false → k ≠ 15 → (k < 16 ∨ 24 < k) → T3 k = T k := fun k a b c => by rw [ho k c, hU k a b]
  obtain ⟨hp, ht, hk, ⟨g1, g2, g3, g4, g5, g6⟩, hr⟩ := hT
  have hds : d = s 11 0 0 := hd.trans g1
  have Rq : q4 (U 12) (tdR s) := ⟨hq 0 (by omega) (by omega), hq 1 (by omega) (by omega), hq 2 (by omega) (by omega), hq 3 (by omega) (by omega)⟩
  have f : ∀ k, k < 11 ∨ 17 < k → FDun s k = s k := fun k => FDun_k
  have h11 := hS.2.2.2.2.2.2.2.2.1
  refine ⟨?_, ?_, ?_, ⟨?_, fun d' d0 d1 => ?_, fun q r q0 q1 r0 r1 => ?_, fun q q0 q1 => ?_, fun j hj => ?_, fun j hj => ?_⟩, ?_⟩
  · simp only [TSp, f 0 (by decide), f 1 (by decide), f 2 (by decide), f 3 (by decide), f 4 (by decide), f 5 (by decide), e 1 (by decide) (by decide) (by decide), e 2 (by decide) (by decide) (by decide), e 3 (by decide) (by decide) (by decide), e 4 (by decide) (by decide) (by decide), e 5 (by decide) (by decide) (by decide), e 6 (by decide) (by decide) (by decide)]
    exact hp
  · simp only [TSt, f 6 (by decide), f 7 (by decide), f 8 (by decide), e 7 (by decide) (by decide) (by decide), e 8 (by decide) (by decide) (by decide), e 9 (by decide) (by decide) (by decide)]
    exact ht
  · simp only [TSk, f 9 (by decide), f 10 (by decide), e 10 (by decide) (by decide) (by decide), e 11 (by decide) (by decide) (by decide)]
    exact hk
  · rw [FDun_11, ho 15 (by decide), u15, hds]
  · rw [FDun_11] at d1
    by_cases c : d' = s 11 0 0
    · obtain ⟨n1, n2⟩ := FDun_n (s := s)
      rw [c, n1, n2, ← hds]
      refine ⟨?_, fun i i0 i1 => ?_⟩
      · rw [hH.1, fu, if_pos rfl, x8]
      · rw [hH.2.1 i i0 i1, hq i i0 i1]
    · obtain ⟨n1, n2⟩ := FDun_o (s := s) (d := d') (by omega)
      obtain ⟨o1, o2⟩ := g2 d' d0 (by omega)
      rw [n1, n2]
      refine ⟨?_, fun i i0 i1 => ?_⟩
      · rw [hH.1, fu, if_neg (by omega), hU 16 (by decide) (by decide), o1]
      · rw [hH.2.2 _ (by omega), hU 17 (by decide) (by decide), o2 i i0 i1]
  · rw [FDun_11] at q1
    by_cases c : q < 3 * s 11 0 0
    · obtain ⟨n1, n2, n3, n4⟩ := FDun_fo c
      have := hO.1 (16 * q + r) (by omega)
      rw [n1, n2, this.1, this.2, hU 18 (by decide) (by decide), hU 19 (by decide) (by decide)]
      exact g3 q r q0 c r0 r1
    · have w : 3 * s 11 0 0 + ((q - 3 * s 11 0 0).toNat : Int) = q := by omega
      obtain ⟨n1, n2, n3, n4, -⟩ := FDun_fn (s := s) (f := (q - 3 * s 11 0 0).toNat) (by omega)
      rw [w] at n1 n2
      have := (hA (q - 3 * s 11 0 0).toNat (by omega)).1 r r0 r1
      rw [hds, w] at this
      rw [n1, n2, this.1, this.2, gxe_c Rq, fD_c Rq, fM_c Rq]
      exact ⟨rfl, rfl⟩
  · rw [FDun_11] at q1
    by_cases c : q < 3 * s 11 0 0
    · obtain ⟨n1, n2, n3, n4⟩ := FDun_fo c
      rw [n3, n4, hO.2.1 q (by omega), hO.2.2 q (by omega), hU 20 (by decide) (by decide), hU 21 (by decide) (by decide)]
      exact g4 q q0 c
    · have w : 3 * s 11 0 0 + ((q - 3 * s 11 0 0).toNat : Int) = q := by omega
      obtain ⟨n1, n2, n3, n4, -⟩ := FDun_fn (s := s) (f := (q - 3 * s 11 0 0).toNat) (by omega)
      rw [w] at n3 n4
      have := (hA (q - 3 * s 11 0 0).toNat (by omega)).2
      rw [hds, w] at this
      rw [n3, n4, this.1, this.2, gxe_c Rq, gxe_c Rq, fT_c Rq]
      exact ⟨rfl, rfl⟩
  · rw [FDun_11] at hj
    have := hO.1 j (by omega)
    rw [this.1, this.2, hU 18 (by decide) (by decide), hU 19 (by decide) (by decide)]
    exact g5 j (by omega)
  · rw [FDun_11] at hj
    rw [hO.2.1 j (by omega), hU 20 (by decide) (by decide)]
    exact g6 j (by omega)
  · simp only [TSr, f 18 (by decide), f 19 (by decide), f 20 (by decide), f 21 (by decide), f 22 (by decide), f 23 (by decide), f 24 (by decide), e 25 (by decide) (by decide) (by decide), e 26 (by decide) (by decide) (by decide), e 27 (by decide) (by decide) (by decide), e 28 (by decide) (by decide) (by decide), e 29 (by decide) (by decide) (by decide), e 30 (by decide) (by decide) (by decide), e 31 (by decide) (by decide) (by decide)]
    exact hr
theorem TS_run {T T' : mT} {s : sS} {p c d R n : Int} (hT : TS T s) (hl : ∀ r, 0 ≤ r → r < s 18 0 0 → s 21 r 0 ≤ 60) (hR : R = T 25 0) (hn : n = T 11 0) (ho : ∀ k, k ≠ 11 → (k < 25 ∨ 31 < k) → T' k = T k) (h25 : T' 25 0 = R + 1) (h11 : T' 11 0 = 0)
    (h26 : T' 26 = fu (T 26) R p) (h29 : T' 29 = fu (T 29) R c) (h30 : T' 30 = fu (T 30) R d) (h31 : T' 31 = fu (T 31) R (-3)) (h28 : T' 28 = fu (T 28) R n) (h27 : ∀ j, 0 ≤ j → j < n → T' 27 (60 * R + j) = T 10 j) (h27' : ∀ j, j < 60 * R → T' 27 j = T 27 j) : TS T' (FRun p c d s) := by
  obtain ⟨hp, ht, hk, hg, hr⟩ := hT
  have hRs : R = s 18 0 0 := hR.trans hr.1
  have hns : n = s 9 0 0 := hn.trans hk.1
  have f : ∀ k, k ≠ 9 ∧ (k < 18 ∨ 24 < k) → FRun p c d s k = s k := fun k => FRun_k
  obtain ⟨r18, r9, r19, r22, r23, r24, r21, r20⟩ := FRun_n (p := p) (c := c) (d := d) (s := s)
  have e := fun k a b => ho k a b
  refine ⟨?_, ?_, ⟨?_, fun j j0 j1 => ?_⟩, ?_, ⟨?_, fun r r0 r1 => ?_⟩⟩
  · simp only [TSp, f 0 (by decide), f 1 (by decide), f 2 (by decide), f 3 (by decide), f 4 (by decide), f 5 (by decide), e 1 (by decide) (by decide), e 2 (by decide) (by decide), e 3 (by decide) (by decide), e 4 (by decide) (by decide), e 5 (by decide) (by decide), e 6 (by decide) (by decide)]
    exact hp
  · simp only [TSt, f 6 (by decide), f 7 (by decide), f 8 (by decide), e 7 (by decide) (by decide), e 8 (by decide) (by decide), e 9 (by decide) (by decide)]
    exact ht
  · rw [h11, r9]
  · rw [r9] at j1; omega
  · simp only [TSg, f 11 (by decide), f 12 (by decide), f 13 (by decide), f 14 (by decide), f 15 (by decide), f 16 (by decide), f 17 (by decide), e 15 (by decide) (by decide), e 16 (by decide) (by decide), e 17 (by decide) (by decide), e 18 (by decide) (by decide), e 19 (by decide) (by decide), e 20 (by decide) (by decide), e 21 (by decide) (by decide)]
    exact hg
  · rw [h25, r18, hRs]
  · rw [r18] at r1
    rw [h26, h28, h29, h30, h31]
    by_cases q : r = s 18 0 0
    · rw [q, r19, r21, r22, r23, r24, hRs, hns]
      simp only [fu, if_true]
      refine ⟨trivial, trivial, trivial, trivial, trivial, fun k k0 k1 => ?_⟩
      have := h27 k k0 (by omega)
      rw [hRs] at this
      rw [this, r20 k]
      exact hk.2 k k0 k1
    · obtain ⟨a1, a2, a3, a4, a5, a6⟩ := hr.2 r r0 (by omega)
      have g : ∀ k j, k ≠ 9 ∧ k ≠ 18 → FRun p c d s k r j = s k r j := fun k j hk => FRun_o q hk
      rw [g 19 0 (by decide), g 21 0 (by decide), g 22 0 (by decide), g 23 0 (by decide), g 24 0 (by decide)]
      simp only [fu, if_neg (show ¬ r = R by omega)]
      refine ⟨a1, a2, a3, a4, a5, fun k k0 k1 => ?_⟩
      have := hl r r0 (by omega)
      rw [h27' _ (by omega), g 20 k (by decide)]
      exact a6 k k0 k1
