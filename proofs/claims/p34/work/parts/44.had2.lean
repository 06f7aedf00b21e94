/-! ===== a dungeon had: the state relation ===== -/
def adw (t : Nat) : Nat := if t = 24 then 402 else if t = 25 then 403 else if t = 26 then 405 else 406
def adK (t : Nat) : Int := if t = 20 then 22 else if t = 22 then 15 else if t = 23 then 23 else 10
def adC (n : Int) (t : Nat) (i j : Int) : Prop := i = n ∧ (((t = 20 ∨ t = 21 ∨ t = 22) ∧ j = 0) ∨ ((t = 23 ∨ t = 24 ∨ t = 25 ∨ t = 26 ∨ t = 27) ∧ 0 ≤ j ∧ j < 3))
theorem adN_not {ad : sS} {g : ac_H} {n D Rc b : Int} {t : Nat} {i j : Int} (h : ¬ adC n t i j) : adN ad g n D Rc b t i j = ad t i j := by
  unfold adC at h
  unfold adN
  rw [if_neg (by omega), if_neg (by omega), if_neg (by omega), if_neg (by omega), if_neg (by omega), if_neg (by omega), if_neg (by omega), if_neg (by omega)]
theorem RC_dun {g0 g3 g4 : ac_H} {x D Rc b : Int} {ad s : sS} (hR : RC g0 x ad s) (hS : SI s) (h20 : s 11 0 0 < 20)
    (nD : ac_new g0 D) (nR : ac_new g0 Rc) (nB : ac_new g0 b) (old3 : ∀ k y z, g0 0 y 0 ≠ 0 → g3 k y z = g0 k y z)
    (a1 : g3 0 D 0 = 22) (a2 : g3 300 D 0 = s 11 0 0) (a3 : g3 301 D 0 = s 7 0 0) (a4 : g3 302 D 0 = Rc) (a5 : g3 303 D 0 = b) (a6 : g3 0 Rc 0 = 10) (a7 : g3 1 Rc 0 = 6) (a8 : ∀ i, 0 ≤ i → i < 6 → g3 10 Rc i = tdR s i) (a9 : g3 0 b 0 = 15) (a10 : g3 1 b 0 = 3)
    (hg : DGk g3 g4 D 3) : RC (up (up g4 14 (ad 6 0 0) (s 11 0 0) D) 907 x 0 (s 11 0 0 + 1)) x (adN ad g4 (s 11 0 0) D Rc b) (FDun s) ∧ FR g0 (up (up g4 14 (ad 6 0 0) (s 11 0 0) D) 907 x 0 (s 11 0 0 + 1)) ad (adN ad g4 (s 11 0 0) D Rc b) := by
  obtain ⟨hi, hf, hs, hd, hpk, hch, hgg, hl, hr⟩ := hR
  obtain ⟨d1, d2, d3⟩ := hg
  have n0 : 0 ≤ s 11 0 0 := hS.2.2.2.2.2.2.2.2.1.1
  have Rq : q4 (rul g3 D) (tdR s) := by
    unfold q4 rul
    rw [a4]
    exact ⟨a8 0 (by omega) (by omega), a8 1 (by omega) (by omega), a8 2 (by omega) (by omega), a8 3 (by omega) (by omega)⟩
  have old4 : ∀ k y z, g0 0 y 0 ≠ 0 → g4 k y z = g0 k y z := fun k y z hy => by
    rw [d1 k y z (by rw [old3 0 y 0 hy]; exact hy) (fun q => new_ne nB hy (by rw [q.2, a5])), old3 k y z hy]
  have e4 : ∀ k z, k ≠ 15 → g4 k D z = g3 k D z := fun k z hk => d1 k D z (by rw [a1]; decide) (fun q => hk q.1)
  have eR : ∀ k z, g4 k Rc z = g3 k Rc z := fun k z => d1 k Rc z (by rw [a6]; decide) (fun q => by
    have := q.2; rw [a5] at this; rw [this, a9] at a6; exact absurd a6 (by decide))
  have eb : ∀ k z, k ≠ 15 → g4 k b z = g3 k b z := fun k z hk => d1 k b z (by rw [a9]; decide) (fun q => hk q.1)
  have fl : ∀ f, 0 ≤ f → f < 3 → FGk g4 (flr g4 D f) (gxe (s 7 0 0) (tdR s) f.toNat).2 (gxe (s 7 0 0) (tdR s) f.toNat).1 (tdR s) ∧ FRk g3 g4 (flr g4 D f) := fun f f0 f1 => by
    obtain ⟨p1, p2⟩ := d2 f.toNat (by omega)
    rw [show ((f.toNat : Nat) : Int) = f by omega, a3, gxe_c Rq] at p1
    rw [show ((f.toNat : Nat) : Int) = f by omega] at p2
    refine ⟨?_, p2⟩
    unfold FGk at p1 ⊢
    rw [fD_c Rq, fM_c Rq, fT_c Rq] at p1
    exact p1
  have fs : ∀ f f', 0 ≤ f → f < 3 → 0 ≤ f' → f' < 3 → f ≠ f' → DSk g4 (flr g4 D f) (flr g4 D f') := fun f f' f0 f1 f0' f1' hne => by
    have := d3 f.toNat f'.toNat (by omega) (by omega) (by omega)
    rw [show ((f.toNat : Nat) : Int) = f by omega, show ((f'.toNat : Nat) : Int) = f' by omega] at this
    exact this
  have z3 : ∀ y, g3 0 y 0 = 0 → g0 0 y 0 = 0 := fun y hy => by
    by_cases q : g0 0 y 0 = 0
    · exact q
    · rw [old3 0 y 0 q] at hy; exact absurd hy q
  obtain ⟨v20, v21, v22, vf⟩ := adN_n (ad := ad) (g := g4) (n := s 11 0 0) (D := D) (Rc := Rc) (b := b)
  -- the new names
  have vA : ∀ t i j, adC (s 11 0 0) t i j → 0 < adN ad g4 (s 11 0 0) D Rc b t i j ∧ g0 0 (adN ad g4 (s 11 0 0) D Rc b t i j) 0 = 0 ∧ g4 0 (adN ad g4 (s 11 0 0) D Rc b t i j) 0 = adK t ∧ (t = 21 → g3 0 (adN ad g4 (s 11 0 0) D Rc b t i j) 0 ≠ 0) ∧ (24 ≤ t → g3 0 (adN ad g4 (s 11 0 0) D Rc b t i j) 0 = 0) := by
    rintro t i j ⟨rfl, ⟨ht, rfl⟩ | ⟨ht, j0, j1⟩⟩
    · rcases ht with rfl | rfl | rfl
      · rw [v20]; exact ⟨nD.1, nD.2 0 0, by rw [e4 0 0 (by decide), a1]; rfl, fun q => absurd q (by decide), fun q => absurd q (by decide)⟩
      · rw [v21]; exact ⟨nR.1, nR.2 0 0, by rw [eR, a6]; rfl, fun _ => by rw [a6]; decide, fun q => absurd q (by decide)⟩
      · rw [v22]; exact ⟨nB.1, nB.2 0 0, by rw [eb 0 0 (by decide), a9]; rfl, fun q => absurd q (by decide), fun q => absurd q (by decide)⟩
    · obtain ⟨w1, w2, w3, w4, w5⟩ := vf j j0 j1
      obtain ⟨⟨⟨l1, l2, l3, l4, l5, l6, l7, l8, l9, l10, l11, -⟩, -⟩, r1, r2, r3, r4, r5, r6, r7, r8, r9, r10⟩ := fl j j0 j1
      rcases ht with rfl | rfl | rfl | rfl | rfl
      · rw [w1]; exact ⟨r1, z3 _ r2, by rw [l1]; rfl, fun q => absurd q (by decide), fun q => absurd q (by decide)⟩
      · rw [w2]; exact ⟨r7, z3 _ r3, by rw [l4]; rfl, fun q => absurd q (by decide), fun _ => r3⟩
      · rw [w3]; exact ⟨r8, z3 _ r4, by rw [l6]; rfl, fun q => absurd q (by decide), fun _ => r4⟩
      · rw [w4]; exact ⟨r9, z3 _ r5, by rw [l8]; rfl, fun q => absurd q (by decide), fun _ => r5⟩
      · rw [w5]; exact ⟨r10, z3 _ r6, by rw [l10]; rfl, fun q => absurd q (by decide), fun _ => r6⟩
  have vw : ∀ t f, (t = 24 ∨ t = 25 ∨ t = 26 ∨ t = 27) → 0 ≤ f → f < 3 → adN ad g4 (s 11 0 0) D Rc b t (s 11 0 0) f = g4 (adw t) (flr g4 D f) 0 := by
    intro t f ht f0 f1
    obtain ⟨w1, w2, w3, w4, w5⟩ := vf f f0 f1
    rcases ht with rfl | rfl | rfl | rfl
    · rw [w2]; rfl
    · rw [w3]; rfl
    · rw [w4]; rfl
    · rw [w5]; rfl
  have vI : ∀ t i j t' i' j', adC (s 11 0 0) t i j → adC (s 11 0 0) t' i' j' → adN ad g4 (s 11 0 0) D Rc b t i j = adN ad g4 (s 11 0 0) D Rc b t' i' j' → t = t' ∧ i = i' ∧ j = j' := by
    intro t i j t' i' j' c c' e
    obtain ⟨-, -, k1, k2, k3⟩ := vA t i j c
    obtain ⟨-, -, k1', k2', k3'⟩ := vA t' i' j' c'
    rw [e] at k1 k2 k3
    rw [k1] at k1'
    obtain ⟨rfl, hc⟩ := c
    obtain ⟨rfl, hc'⟩ := c'
    have key : ∀ t t', (t = 24 ∨ t = 25 ∨ t = 26 ∨ t = 27) → (t' = 24 ∨ t' = 25 ∨ t' = 26 ∨ t' = 27) → ∀ f f', 0 ≤ f → f < 3 → 0 ≤ f' → f' < 3 → adN ad g4 (s 11 0 0) D Rc b t (s 11 0 0) f = adN ad g4 (s 11 0 0) D Rc b t' (s 11 0 0) f' → t = t' ∧ f = f' := by
      intro t t' ht ht' f f' f0 f1 f0' f1' e
      rw [vw t f ht f0 f1, vw t' f' ht' f0' f1'] at e
      have w1 : adw t = 402 ∨ adw t = 403 ∨ adw t = 405 ∨ adw t = 406 := by rcases ht with rfl | rfl | rfl | rfl <;> simp [adw]
      have w2 : adw t' = 402 ∨ adw t' = 403 ∨ adw t' = 405 ∨ adw t' = 406 := by rcases ht' with rfl | rfl | rfl | rfl <;> simp [adw]
      by_cases q : f = f'
      · subst q
        refine ⟨?_, rfl⟩
        obtain ⟨⟨⟨l1, l2, l3, l4, l5, l6, l7, l8, l9, l10, l11, o1, o2, o3, o4, o5, o6⟩, -⟩, -⟩ := fl f f0 f1
        rcases ht with rfl | rfl | rfl | rfl <;> rcases ht' with rfl | rfl | rfl | rfl <;> first | rfl | exact absurd e o1 | exact absurd e o2 | exact absurd e o3 | exact absurd e o4 | exact absurd e o5 | exact absurd e o6 | exact absurd e.symm o1 | exact absurd e.symm o2 | exact absurd e.symm o3 | exact absurd e.symm o4 | exact absurd e.symm o5 | exact absurd e.symm o6
      · exact absurd e ((fs f f' f0 f1 f0' f1' q).2 _ _ w1 w2)
    have kk : ∀ t, (t = 20 ∨ t = 21 ∨ t = 22 ∨ t = 23 ∨ t = 24 ∨ t = 25 ∨ t = 26 ∨ t = 27) → (adK t = 22 ↔ t = 20) ∧ (adK t = 15 ↔ t = 22) ∧ (adK t = 23 ↔ t = 23) := by
      intro t ht
      rcases ht with rfl | rfl | rfl | rfl | rfl | rfl | rfl | rfl <;> decide
    have kt := kk t (by omega)
    have kt' := kk t' (by omega)
    rw [k1'] at kt
    rcases hc with ⟨ht, rfl⟩ | ⟨ht, j0, j1⟩
    · rcases hc' with ⟨ht', rfl⟩ | ⟨ht', j0', j1'⟩
      · refine ⟨?_, rfl, rfl⟩
        omega
      · exfalso
        have c21 : t = 21 := by omega
        have : 24 ≤ t' := by omega
        exact k2 c21 (k3' this)
    · rcases hc' with ⟨ht', rfl⟩ | ⟨ht', j0', j1'⟩
      · exfalso
        have c21 : t' = 21 := by omega
        have : 24 ≤ t := by omega
        exact k2' c21 (k3 this)
      · by_cases q : t = 23
        · have q' : t' = 23 := by omega
          subst q; subst q'
          refine ⟨rfl, rfl, ?_⟩
          rw [(vf j j0 j1).1, (vf j' j0' j1').1] at e
          by_cases q2 : j = j'
          · exact q2
          · exact absurd e (fs j j' j0 j1 j0' j1' q2).1
        · have := key t t' (by omega) (by omega) j j' j0 j1 j0' j1' e
          exact ⟨this.1, rfl, this.2⟩
  generalize hG : up (up g4 14 (ad 6 0 0) (s 11 0 0) D) 907 x 0 (s 11 0 0 + 1) = G
  have G4 : ∀ k y z, k ≠ 14 → k ≠ 907 → G k y z = g4 k y z := fun k y z h1 h2 => by rw [← hG, up_k h2, up_k h1]
  have hA : Aw g0 G (fun k => k == 14 || k == 907) := fun k y z hy hk hw => by
    rw [G4 k y z (by rintro rfl; simp at hw) (by rintro rfl; simp at hw), old4 k y z hy]
  have h10 : ∀ y, g0 0 y 0 ≠ 0 → G 10 y = g0 10 y := fun y hy => by funext z; rw [G4 10 y z (by decide) (by decide), old4 10 y z hy]
  obtain ⟨f1, f2, f3, f4, f5, f6, f7, f8, f9, f10, f11, f12, f13, f14, f15, f16, f17, f18, f19, f20, f21, f22, f23, f24, f25, f26, f27, f28, f29⟩ := id hf
  refine ⟨⟨⟨?_, ?_⟩, ?_, ?_, ?_, ?_, ?_, ?_, ?_, ?_⟩, ?_, ?_⟩
  · intro t i j t' i' j' e
    by_cases c : adC (s 11 0 0) t i j
    · by_cases c' : adC (s 11 0 0) t' i' j'
      · exact vI t i j t' i' j' c c' e
      · exfalso
        rw [adN_not c'] at e
        obtain ⟨k0, k1, -⟩ := vA t i j c
        rw [e] at k0 k1
        rcases hi.2 t' i' j' with q | q
        · omega
        · exact q k1
    · by_cases c' : adC (s 11 0 0) t' i' j'
      · exfalso
        rw [adN_not c] at e
        obtain ⟨k0, k1, -⟩ := vA t' i' j' c'
        rw [← e] at k0 k1
        rcases hi.2 t i j with q | q
        · omega
        · exact q k1
      · rw [adN_not c, adN_not c'] at e
        exact hi.1 _ _ _ _ _ _ e
  · intro t i j
    by_cases c : adC (s 11 0 0) t i j
    · right
      obtain ⟨k0, k1, k2, -⟩ := vA t i j c
      rw [G4 0 _ _ (by decide) (by decide), k2]
      unfold adK
      repeat' split
      all_goals decide
    · rw [adN_not c]
      exact (RCi_A hA hi rfl).2 t i j
  · have := RCf_A hA hf ⟨rfl, rfl, rfl, rfl, rfl, rfl, rfl, rfl, rfl, rfl, rfl⟩
    simp only [RCf, adN_t (show 0 < 20 ∨ 27 < 0 by omega), adN_t (show 1 < 20 ∨ 27 < 1 by omega), adN_t (show 2 < 20 ∨ 27 < 2 by omega), adN_t (show 3 < 20 ∨ 27 < 3 by omega), adN_t (show 4 < 20 ∨ 27 < 4 by omega), adN_t (show 5 < 20 ∨ 27 < 5 by omega), adN_t (show 6 < 20 ∨ 27 < 6 by omega), adN_t (show 7 < 20 ∨ 27 < 7 by omega), adN_t (show 8 < 20 ∨ 27 < 8 by omega), adN_t (show 9 < 20 ∨ 27 < 9 by omega)] at this ⊢
    exact this
  · obtain ⟨g1, g2, g3', g4', g5, g6, g7⟩ := hs
    unfold RCs
    rw [FDun_k (k := 6) (by omega), FDun_k (k := 7) (by omega), FDun_k (k := 8) (by omega), FDun_k (k := 9) (by omega), FDun_11, FDun_k (k := 18) (by omega), FDun_k (k := 0) (by omega), adN_t (t := 1) (by omega)]
    refine ⟨?_, ?_, ?_, ?_, by rw [← hG, up_self], ?_, ?_⟩
    all_goals (rw [hA _ _ _ (by omega) (by decide) (by rfl)]; assumption)
  · unfold RCd
    rw [FDun_k (by omega), FDun_k (by omega), adN_t (by omega), h10 _ (by omega)]
    exact hd
  · have := RCp_A hA hf hpk ⟨rfl, rfl, rfl, rfl, rfl, rfl⟩
    unfold RCp at this ⊢
    rw [FDun_k (by omega), FDun_k (by omega), FDun_k (by omega), adN_t (by omega), adN_t (by omega), adN_t (by omega)]
    exact this
  · have := RCc_A hA hpk hch ⟨rfl, rfl, rfl, rfl, rfl⟩
    unfold RCc at this ⊢
    rw [FDun_k (by omega), FDun_k (by omega), FDun_k (by omega), FDun_k (by omega), FDun_k (by omega), adN_t (by omega), adN_t (by omega)]
    exact this
  · intro d d0 d1'
    rw [FDun_11] at d1'
    rw [adN_t (t := 6) (by omega)]
    have e14 : G 14 (ad 6 0 0) d = if d = s 11 0 0 then D else g0 14 (ad 6 0 0) d := by
      rw [← hG, up_k (by decide)]
      by_cases q : d = s 11 0 0
      · rw [q, up_self, if_pos rfl]
      · rw [up_j q, if_neg q, old4 14 _ _ (by omega)]
    by_cases q : d = s 11 0 0
    · subst q
      rw [v20, v21, v22, FDun_n.1, FDun_n.2, e14, if_pos rfl]
      rw [G4 0 D 0 (by decide) (by decide), G4 300 D 0 (by decide) (by decide), G4 301 D 0 (by decide) (by decide), G4 302 D 0 (by decide) (by decide), G4 303 D 0 (by decide) (by decide), G4 0 Rc 0 (by decide) (by decide), G4 1 Rc 0 (by decide) (by decide), G4 0 b 0 (by decide) (by decide), G4 1 b 0 (by decide) (by decide)]
      rw [e4 0 0 (by decide), e4 300 0 (by decide), e4 301 0 (by decide), e4 302 0 (by decide), e4 303 0 (by decide), eR, eR, eb 0 0 (by decide), eb 1 0 (by decide)]
      refine ⟨nD.1, rfl, a1, a2, a3, a4, a5, a6, a7, fun i i0 i1 => ?_, a9, a10⟩
      rw [G4 10 Rc i (by decide) (by decide), eR]
      exact a8 i i0 i1
    · obtain ⟨c1, c2, c3, c4, c5, c6, c7, c8, c9, c10, c11, c12⟩ := hgg d d0 (by omega)
      rw [adN_o q, adN_o q, adN_o q, (FDun_o (by omega)).1, (FDun_o (by omega)).2, e14, if_neg q, h10 _ (by omega)]
      refine ⟨c1, c2, ?_, ?_, ?_, ?_, ?_, ?_, ?_, c10, ?_, ?_⟩
      all_goals (rw [hA _ _ _ (by omega) (by decide) (by rfl)]; assumption)
  · intro d f d0 d1' f0 f1'
    rw [FDun_11] at d1'
    by_cases q : d = s 11 0 0
    · subst q
      obtain ⟨w1, w2, w3, w4, w5⟩ := vf f f0 f1'
      obtain ⟨⟨⟨l1, l2, l3, l4, l5, l6, l7, l8, l9, l10, l11, o1, o2, o3, o4, o5, o6⟩, p1, p2, p3, p4, p5, p6⟩, r1, -⟩ := fl f f0 f1'
      have fn := FDun_fn (s := s) (f := f.toNat) (by omega)
      rw [show ((f.toNat : Nat) : Int) = f by omega] at fn
      obtain ⟨y1, y2, y3, y4, y5⟩ := fn
      rw [w1, w2, w3, w4, w5, v22, y1, y2, y3, y4, y5]
      have fe : G 15 b f = flr g4 D f := by
        rw [G4 15 b f (by decide) (by decide)]
        unfold flr
        rw [e4 303 0 (by decide), a5]
      have G10 : ∀ y, G 10 y = g4 10 y := fun y => by funext z; exact G4 10 y z (by decide) (by decide)
      rw [fe]
      simp only [G4 0 _ _ (by decide) (by decide), G4 1 _ _ (by decide) (by decide), G4 400 _ _ (by decide) (by decide), G4 401 _ _ (by decide) (by decide), G4 402 _ _ (by decide) (by decide), G4 403 _ _ (by decide) (by decide), G4 404 _ _ (by decide) (by decide), G4 405 _ _ (by decide) (by decide), G4 406 _ _ (by decide) (by decide), G10]
      refine ⟨r1, trivial, l1, p1, ?_, trivial, trivial, p4, trivial, trivial, l4, l5, l6, l7, l8, l9, l10, l11, p2, p3, fun r r0 r1 => dst_eq p5 r0 r1⟩
      rw [p6]
      exact fmx_congr (fun r r0 r1 => dst_eq p5 r0 r1) 15 (by omega)
    · obtain ⟨l1, l2, l3, l4, l5, l6, l7, l8, l9, l10, l11, l12, l13, l14, l15, l16, l17, l18, l19, l20, l21⟩ := hl d f d0 (by omega) f0 f1'
      have c11 := (hgg d d0 (by omega)).2.2.2.2.2.2.2.2.2.2.1
      rw [adN_o q, adN_o q, adN_o q, adN_o q, adN_o q, adN_o q, ent_o (by omega) f1']
      obtain ⟨y1, y2, y3, y4⟩ := FDun_fo (s := s) (q := 3 * d + f) (by omega)
      rw [y1, y2, y3, y4, h10 _ (by omega), h10 _ (by omega), h10 _ (by omega)]
      refine ⟨l1, ?_, ?_, ?_, ?_, ?_, ?_, ?_, ?_, ?_, ?_, ?_, ?_, ?_, ?_, ?_, ?_, ?_, l19, l20, l21⟩
      all_goals (rw [hA _ _ _ (by omega) (by decide) (by rfl)]; assumption)
  · have hr2 := RCr_A hA hf hr (fun r r0 r1 => h10 _ (by have := (hr r r0 r1).2.2.2.2.2.2.2.2.2.1; omega)) ⟨rfl, rfl, rfl, rfl, rfl, rfl, rfl, rfl, rfl⟩
    intro r r0 r1
    rw [FDun_k (by omega)] at r1
    have s23 := (hS.2.2.2.2.2.2.2.2.2.2.2.2 r r0 r1).2.1
    have := hr2 r r0 r1
    rw [FDun_k (k := 19) (by omega), FDun_k (k := 22) (by omega), FDun_k (k := 23) (by omega), FDun_k (k := 24) (by omega), FDun_k (k := 21) (by omega), FDun_k (k := 20) (by omega), adN_t (t := 30) (by omega), adN_t (t := 7) (by omega), adN_t (t := 31) (by omega), adN_o (by omega)]
    exact this
  · intro k y z hy hn
    rw [← hG]
    have y1 := hn 0 0 0
    rw [f1] at y1
    rw [up_a (Ne.symm y1), up_a (Ne.symm (hn 6 0 0)), old4 k y z hy]
  · intro t i j
    by_cases c : adC (s 11 0 0) t i j
    · right; exact (vA t i j c).2.1
    · left; exact adN_not c
