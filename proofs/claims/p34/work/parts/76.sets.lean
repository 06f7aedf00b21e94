/-! ===== the order of a set, as a sum of its bits; a floor ===== -/
theorem add_or {a p : Int} (p0 : 0 ≤ p) (p1 : p < 32) (h : bt a p = 0) : wr (a + ishl 1 p) = ior a (ishl 1 p) := by
  have e1 : wr (a + ishl 1 p) = (Int32.ofInt a + Int32.ofInt (ishl 1 p)).toInt := by
    rw [← Int32.ofInt_add, ← ac_wr1, ac_ti (ac_wrr _)]
  have la : lb a p = false := by
    rw [bt_lb p0 p1] at h
    cases q : lb a p
    · rfl
    · rw [q] at h; simp at h
  have hz : (Int32.ofInt a).toBitVec &&& (Int32.ofInt (ishl 1 p)).toBitVec = 0#32 := by
    apply BitVec.eq_of_getLsbD_eq
    intro j hj
    rw [BitVec.getLsbD_and, BitVec.getLsbD_zero]
    have s := lb_shl (i := p) (j := j) p0 p1 (by omega) (by omega)
    have e : (Int32.ofInt (ishl 1 p)).toBitVec.getLsbD j = lb (ishl 1 p) (j : Int) := rfl
    rw [e, s]
    by_cases q : (j : Int) = p
    · have : (Int32.ofInt a).toBitVec.getLsbD j = false := by rw [← la, ← q]; rfl
      rw [this]; rfl
    · simp [q]
  rw [e1]
  unfold ior
  show (Int32.ofInt a + Int32.ofInt (ishl 1 p)).toBitVec.toInt = (Int32.ofInt a ||| Int32.ofInt (ishl 1 p)).toBitVec.toInt
  rw [Int32.toBitVec_add, Int32.toBitVec_or, BitVec.add_eq_or_of_and_eq_zero _ _ hz]
theorem ore_b {nd : Int → Int} {c set : Int} {n : Nat} (c1 : c ≤ 30) (h : ore nd c set n ≠ -1) : 0 ≤ ore nd c set n ∧ ore nd c set n < c ∧ bt (stp nd c set n) (ore nd c set n) = 0 := by
  unfold ore at h ⊢
  generalize stp nd c set n = st at h ⊢
  unfold nx at h ⊢
  rcases fnd_cases (P := fun i => decide (¬ bt (iand set (ixor st (-1))) i = 0 ∧ iand (nd i) (ixor st (-1)) = 0)) c.toNat with ⟨e1, -⟩ | ⟨e1, e2, e3, -⟩
  · exact absurd e1 h
  · have e4 := (of_decide_eq_true e3).1
    generalize fnd (fun i => decide (¬ bt (iand set (ixor st (-1))) i = 0 ∧ iand (nd i) (ixor st (-1)) = 0)) c.toNat = p at e1 e2 e4 ⊢
    refine ⟨e1, by omega, ?_⟩
    rw [bt_lb e1 (by omega), lb_and, lb_not e1 (by omega)] at e4
    rw [bt_lb e1 (by omega)]
    cases q : lb st p
    · rfl
    · rw [q] at e4; simp at e4
/-- the sum of the bits of the first n packs in the order -/
def mtS (s : sS) (set : Int) : Nat → Int
  | 0 => 0
  | n + 1 => wr (mtS s set n + ishl 1 (orS s set n))
theorem mt_st {s : sS} {set : Int} (hS : SI s) : ∀ n : Nat, n ≤ onS s set → mtS s set n = stp (nds s) (s 0 0 0) set n
  | 0, _ => rfl
  | n + 1, hn => by
    have ho : ore (nds s) (s 0 0 0) set n ≠ -1 := (orn_N (nds s) (s 0 0 0) set).2.2 n hn
    have c := hS.1
    obtain ⟨b0, b1, b2⟩ := ore_b (by omega) ho
    rw [mtS, mt_st hS n (by omega), orS, add_or b0 (by omega) b2]
    rfl
theorem or_rg {s : sS} {set : Int} (hS : SI s) {n : Nat} (hn : n < onS s set) : 0 ≤ orS s set n ∧ orS s set n < 10 := by
  have ho : ore (nds s) (s 0 0 0) set n ≠ -1 := (orn_N (nds s) (s 0 0 0) set).2.2 n hn
  have c := hS.1
  obtain ⟨b0, b1, b2⟩ := ore_b (by omega) ho
  unfold orS; omega
theorem on_10 (s : sS) (set : Int) : onS s set ≤ 10 := (orn_N (nds s) (s 0 0 0) set).1
theorem mt_all {s : sS} {set : Int} (hS : SI s) (h : psb s set) : mtS s set (onS s set) = set := by rw [mt_st hS _ (Nat.le_refl _)]; exact h
theorem rls_rg (s : sS) (set : Int) {j : Int} (j0 : 0 ≤ j) (j1 : j < 6) : ac_tbz 1 j ≤ rls s set j ∧ rls s set j ≤ ac_tbz 2 j := rlS_r _ j j0 j1
theorem fmx_fst {f : Int → Int} : ∀ (n : Nat) (j : Int), 0 ≤ j → j ≤ n → f j = f (fmx f n) → fmx f n ≤ j
  | 0, j, a, b, h => a
  | n + 1, j, a, b, h => by
    have m := fun q => fmx_mx (f := f) n j a q
    have r := fmx_r (f := f) n
    have ih := fun q => fmx_fst (f := f) n j a q
    rw [fmx] at h ⊢
    by_cases c : f (fmx f n) < f (n + 1)
    · rw [if_pos c] at h ⊢
      by_cases e : j ≤ n
      · have m1 := m e
        have c' : f (fmx f n) < f ((n : Int) + 1) := c
        have h' : f j = f ((n : Int) + 1) := h
        omega
      · show ((n : Int) + 1) ≤ j
        omega
    · rw [if_neg c] at h ⊢
      by_cases e : j ≤ n
      · exact ih e h
      · omega
theorem ent_rg {s : sS} {d f : Int} (hS : SI s) (d0 : 0 ≤ d) (d1 : d < s 11 0 0) (f0 : 0 ≤ f) (f1 : f < 3) : 0 ≤ entS s d f ∧ entS s d f < 16 := by
  unfold entS
  by_cases q : f = 0
  · rw [if_pos q]; omega
  · rw [if_neg q]
    have := (hS.2.2.2.2.2.2.2.2.2.2.1 d (f - 1) d0 d1 (by omega) (by omega)).2
    rw [show 3 * d + (f - 1) = 3 * d + f - 1 by omega] at this
    exact ⟨this.1, this.2.1⟩
theorem bhd_y {f : Int → Int} {r d : Int} (h : bhd f r d ≠ -1) : bt (f r) d ≠ 0 ∧ bhd f r d = nb r d := by
  unfold bhd at h ⊢
  by_cases q : bt (f r) d = 0
  · rw [if_pos q] at h; exact absurd rfl h
  · exact ⟨q, if_neg q⟩
/-- what a floor shows -/
theorem floor_so {s : sS} {d f : Int} (h : XI s) (d0 : 0 ≤ d) (d1 : d < s 11 0 0) (f0 : 0 ≤ f) (f1 : f < 3) {r : Int} (r0 : 0 ≤ r) (r1 : r < 16) :
    (0 ≤ vlWay d f r s ∧ vlWay d f r s < 16) ∧ (vlWay d f r s = 0 ↔ r = entS s d f) ∧ vlWay d f r s ≤ vlWay d f (s 17 (3 * d + f) 0) s ∧ (vlWay d f r s = vlWay d f (s 17 (3 * d + f) 0) s → s 17 (3 * d + f) 0 ≤ r) ∧ (0 ≤ s 15 (3 * d + f) r ∧ s 15 (3 * d + f) r < 10) ∧
    (∀ dr, 0 ≤ dr → dr < 4 → vlDoor d f r dr s ≠ 0 → nb r dr ≠ -1 ∧ vlDoor d f (nb r dr) (3 - dr) s = 1 ∧ vlWay d f (nb r dr) s ≤ vlWay d f r s + 1 ∧ vlWay d f r s ≤ vlWay d f (nb r dr) s + 1) ∧
    (r ≠ entS s d f → ∃ dr, 0 ≤ dr ∧ dr < 4 ∧ vlDoor d f r dr s = 1 ∧ vlWay d f (nb r dr) s = vlWay d f r s - 1) := by
  obtain ⟨hS, hG, -⟩ := h
  obtain ⟨⟨w, wc⟩, -, -, dk⟩ := hS.2.2.2.2.2.2.2.2.2.2.1 d f d0 d1 f0 f1
  obtain ⟨sy, mo, st⟩ := hG d f d0 d1 f0 f1
  have er := ent_rg hS d0 d1 f0 f1
  unfold vlWay vlDoor
  generalize s 14 (3 * d + f) = D at w wc dk sy st ⊢
  generalize entS s d f = e at w wc mo st er ⊢
  generalize dst D e = F at w wc st ⊢
  generalize s 17 (3 * d + f) 0 = S at st ⊢
  have fp := FPk_WD w
  have rg : ∀ v, 0 ≤ v → v < 16 → 0 ≤ F v ∧ F v < 16 := fun v a b => by
    have := w.2.1 v a b
    have := wc v a b
    omega
  have door : ∀ v dr, 0 ≤ v → v < 16 → 0 ≤ dr → dr < 4 → bhd D v dr ≠ -1 → bhd D v dr = nb v dr ∧ nb v dr ≠ -1 ∧ (0 ≤ nb v dr ∧ nb v dr < 16) ∧ bhd D (nb v dr) (3 - dr) = v ∧ F (nb v dr) ≤ F v + 1 ∧ F v ≤ F (nb v dr) + 1 := by
    intro v dr a b c c2 hb
    obtain ⟨b1, b2⟩ := bhd_y hb
    have n1 : nb v dr ≠ -1 := by rw [← b2]; exact hb
    have n2 := (nb_r (d := dr) a b).resolve_left n1
    have s1 := sy v dr a b c c2 b1
    have back : bhd D (nb v dr) (3 - dr) = v := by
      unfold bhd; rw [if_neg s1]; exact nb_back a b c c2 n1
    have w1 := (w.2.2.1 v dr a b c c2 (wc v a b) hb).2
    rw [b2] at w1
    have w2 := (w.2.2.1 (nb v dr) (3 - dr) n2.1 n2.2 (by omega) (by omega) (wc _ n2.1 n2.2) (by rw [back]; omega)).2
    rw [back] at w2
    exact ⟨b2, n1, n2, back, w1, w2⟩
  refine ⟨rg r r0 r1, ⟨fun q => fp.2 r r0 r1 q, fun q => by rw [q]; exact fp.1⟩, ?_, fun q => ?_, mo.2 r r0 r1, fun dr c c2 hd => ?_, fun q => ?_⟩
  · rw [st]; exact fmx_mx 15 r r0 (by omega)
  · rw [st] at q ⊢; exact fmx_fst 15 r r0 (by omega) q
  · have hb : bhd D r dr ≠ -1 := fun q => hd (if_pos q)
    obtain ⟨k1, k2, k3, k4, k5, k6⟩ := door r dr r0 r1 c c2 hb
    exact ⟨k2, by rw [k4]; exact if_neg (by omega), k5, k6⟩
  · obtain ⟨u, dr, u0, u1, c, c2, hu, hb, hr⟩ := w.2.2.2 r r0 r1 (wc r r0 r1) q
    obtain ⟨k1, k2, k3, k4, k5, k6⟩ := door u dr u0 u1 c c2 (by rw [hb]; omega)
    have e1 : nb u dr = r := by rw [← k1]; exact hb
    rw [e1] at k4
    have hb2 : bhd D r (3 - dr) ≠ -1 := by rw [k4]; omega
    obtain ⟨j1, -⟩ := door r (3 - dr) r0 r1 (by omega) (by omega) hb2
    refine ⟨3 - dr, by omega, by omega, if_neg hb2, ?_⟩
    rw [← j1, k4]; omega
