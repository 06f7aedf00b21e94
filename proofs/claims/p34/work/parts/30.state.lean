/-! ===== the state that both sides keep: s k i j; the class's words, found by their names ad t i j ===== -/
abbrev sS : Type := Nat → Int → Int → Int
def us (s : sS) (k : Nat) (i j v : Int) : sS := fun k' i' j' => if k' = k ∧ i' = i ∧ j' = j then v else s k' i' j'
def uf (s : sS) (k : Nat) (i : Int) (f : Int → Int) : sS := fun k' i' j' => if k' = k ∧ i' = i then f j' else s k' i' j'
theorem us_k {s : sS} {k k' : Nat} {i j v : Int} (e : k' ≠ k) : us s k i j v k' = s k' := by funext i' j'; exact if_neg (fun q => e q.1)
theorem uf_k {s : sS} {k k' : Nat} {i : Int} {f : Int → Int} (e : k' ≠ k) : uf s k i f k' = s k' := by funext i' j'; exact if_neg (fun q => e q.1)
theorem us_s {s : sS} {k : Nat} {i j v : Int} : us s k i j v k i j = v := if_pos ⟨rfl, rfl, rfl⟩
theorem us_n {s : sS} {k : Nat} {i j v i' j' : Int} (e : ¬ (i' = i ∧ j' = j)) : us s k i j v k i' j' = s k i' j' := if_neg (fun q => e q.2)
theorem uf_s {s : sS} {k : Nat} {i : Int} {f : Int → Int} : uf s k i f k i = f := by funext j; exact if_pos ⟨rfl, rfl⟩
theorem uf_n {s : sS} {k : Nat} {i i' : Int} {f : Int → Int} (e : i' ≠ i) : uf s k i f k i' = s k i' := by funext j; exact if_neg (fun q => e q.2)
/-- names are told apart; a name is of no object yet, or of one that is there -/
def RCi (h : ac_H) (ad : sS) : Prop := (∀ t i j t' i' j', ad t i j = ad t' i' j' → t = t' ∧ i = i' ∧ j = j') ∧ ∀ t i j, ad t i j < 0 ∨ h 0 (ad t i j) 0 ≠ 0
/-- what is made once -/
def RCf (h : ac_H) (x : Int) (ad : sS) : Prop := ad 0 0 0 = x ∧ 0 < x ∧ h 0 x 0 = 28 ∧ h 900 x 0 = ad 1 0 0 ∧ h 904 x 0 = ad 5 0 0 ∧ h 906 x 0 = ad 6 0 0 ∧ h 908 x 0 = ad 7 0 0 ∧ h 910 x 0 = ad 8 0 0 ∧
  0 < ad 1 0 0 ∧ h 0 (ad 1 0 0) 0 = 25 ∧ h 600 (ad 1 0 0) 0 = ad 2 0 0 ∧ h 602 (ad 1 0 0) 0 = ad 3 0 0 ∧ h 604 (ad 1 0 0) 0 = ad 4 0 0 ∧ h 0 (ad 2 0 0) 0 = 16 ∧ h 1 (ad 2 0 0) 0 = 10 ∧ h 0 (ad 3 0 0) 0 = 10 ∧ h 1 (ad 3 0 0) 0 = 10 ∧ h 0 (ad 4 0 0) 0 = 10 ∧ h 1 (ad 4 0 0) 0 = 6 ∧
  h 0 (ad 5 0 0) 0 = 10 ∧ h 1 (ad 5 0 0) 0 = 60 ∧ h 0 (ad 6 0 0) 0 = 14 ∧ h 1 (ad 6 0 0) 0 = 20 ∧ h 0 (ad 7 0 0) 0 = 17 ∧ h 1 (ad 7 0 0) 0 = 60 ∧ h 0 (ad 8 0 0) 0 = 26 ∧ h 700 (ad 8 0 0) 0 = ad 9 0 0 ∧ h 0 (ad 9 0 0) 0 = 10 ∧ h 1 (ad 9 0 0) 0 = 16
/-- the numbers -/
def RCs (h : ac_H) (x : Int) (ad : sS) (s : sS) : Prop := h 901 x 0 = s 6 0 0 ∧ h 902 x 0 = s 7 0 0 ∧ h 903 x 0 = s 8 0 0 ∧ h 905 x 0 = s 9 0 0 ∧ h 907 x 0 = s 11 0 0 ∧ h 909 x 0 = s 18 0 0 ∧ h 601 (ad 1 0 0) 0 = s 0 0 0
def RCd (h : ac_H) (ad : sS) (s : sS) : Prop := ∀ j, 0 ≤ j → j < s 9 0 0 → h 10 (ad 5 0 0) j = s 10 0 j
def RCp (h : ac_H) (ad : sS) (s : sS) : Prop := ∀ p, 0 ≤ p → p < s 0 0 0 → 0 < ad 10 p 0 ∧ h 16 (ad 2 0 0) p = ad 10 p 0 ∧ h 0 (ad 10 p 0) 0 = 24 ∧ h 500 (ad 10 p 0) 0 = ad 11 p 0 ∧ h 501 (ad 10 p 0) 0 = s 1 p 0 ∧ h 502 (ad 10 p 0) 0 = s 5 p 0 ∧ h 0 (ad 11 p 0) 0 = 13 ∧ h 1 (ad 11 p 0) 0 = 4
def RCc (h : ac_H) (ad : sS) (s : sS) : Prop := ∀ p i, 0 ≤ p → p < s 0 0 0 → 0 ≤ i → i < s 1 p 0 → 0 < ad 12 p i ∧ h 13 (ad 11 p 0) i = ad 12 p i ∧ h 0 (ad 12 p i) 0 = 20 ∧ h 100 (ad 12 p i) 0 = s 2 p i ∧ h 101 (ad 12 p i) 0 = s 3 p i ∧ h 102 (ad 12 p i) 0 = s 4 p i
def RCg (h : ac_H) (ad : sS) (s : sS) : Prop := ∀ d, 0 ≤ d → d < s 11 0 0 → 0 < ad 20 d 0 ∧ h 14 (ad 6 0 0) d = ad 20 d 0 ∧ h 0 (ad 20 d 0) 0 = 22 ∧ h 300 (ad 20 d 0) 0 = d ∧ h 301 (ad 20 d 0) 0 = s 12 d 0 ∧ h 302 (ad 20 d 0) 0 = ad 21 d 0 ∧ h 303 (ad 20 d 0) 0 = ad 22 d 0 ∧ h 0 (ad 21 d 0) 0 = 10 ∧ h 1 (ad 21 d 0) 0 = 6 ∧ (∀ i, 0 ≤ i → i < 6 → h 10 (ad 21 d 0) i = s 13 d i) ∧ h 0 (ad 22 d 0) 0 = 15 ∧ h 1 (ad 22 d 0) 0 = 3
/-- the entry of floor f of dungeon d -/
def entS (s : sS) (d f : Int) : Int := if f = 0 then 0 else s 17 (3 * d + f - 1) 0
def RCl (h : ac_H) (ad : sS) (s : sS) : Prop := ∀ d f, 0 ≤ d → d < s 11 0 0 → 0 ≤ f → f < 3 → 0 < ad 23 d f ∧ h 15 (ad 22 d 0) f = ad 23 d f ∧ h 0 (ad 23 d f) 0 = 23 ∧ h 400 (ad 23 d f) 0 = entS s d f ∧ h 401 (ad 23 d f) 0 = s 17 (3 * d + f) 0 ∧ h 402 (ad 23 d f) 0 = ad 24 d f ∧ h 403 (ad 23 d f) 0 = ad 25 d f ∧ h 404 (ad 23 d f) 0 = s 16 (3 * d + f) 0 ∧ h 405 (ad 23 d f) 0 = ad 26 d f ∧ h 406 (ad 23 d f) 0 = ad 27 d f ∧
  h 0 (ad 24 d f) 0 = 10 ∧ h 1 (ad 24 d f) 0 = 16 ∧ h 0 (ad 25 d f) 0 = 10 ∧ h 1 (ad 25 d f) 0 = 16 ∧ h 0 (ad 26 d f) 0 = 10 ∧ h 1 (ad 26 d f) 0 = 16 ∧ h 0 (ad 27 d f) 0 = 10 ∧ h 1 (ad 27 d f) 0 = 16 ∧
  h 10 (ad 24 d f) = s 14 (3 * d + f) ∧ h 10 (ad 25 d f) = s 15 (3 * d + f) ∧ ∀ r, 0 ≤ r → r < 16 → h 10 (ad 26 d f) r = dst (s 14 (3 * d + f)) (entS s d f) r
def RCr (h : ac_H) (ad : sS) (s : sS) : Prop := ∀ r, 0 ≤ r → r < s 18 0 0 → 0 < ad 30 r 0 ∧ h 17 (ad 7 0 0) r = ad 30 r 0 ∧ h 0 (ad 30 r 0) 0 = 27 ∧ h 800 (ad 30 r 0) 0 = r ∧ h 801 (ad 30 r 0) 0 = s 19 r 0 ∧ h 802 (ad 30 r 0) 0 = s 22 r 0 ∧ h 803 (ad 30 r 0) 0 = ad 20 (s 23 r 0) 0 ∧ h 804 (ad 30 r 0) 0 = ad 31 r 0 ∧ h 805 (ad 30 r 0) 0 = s 24 r 0 ∧ h 0 (ad 31 r 0) 0 = 10 ∧ h 1 (ad 31 r 0) 0 = s 21 r 0 ∧ ∀ k, 0 ≤ k → k < s 21 r 0 → h 10 (ad 31 r 0) k = s 20 r k
def RC (h : ac_H) (x : Int) (ad s : sS) : Prop := RCi h ad ∧ RCf h x ad ∧ RCs h x ad s ∧ RCd h ad s ∧ RCp h ad s ∧ RCc h ad s ∧ RCg h ad s ∧ RCl h ad s ∧ RCr h ad s
/-- doors open only where there is a room behind -/
def DOK (f : Int → Int) : Prop := ∀ r d, 0 ≤ r → r < 16 → 0 ≤ d → d < 4 → bt (f r) d ≠ 0 → nb r d ≠ -1
def SI (s : sS) : Prop := (0 ≤ s 0 0 0 ∧ s 0 0 0 ≤ 10) ∧ (∀ p, 0 ≤ p → p < 10 → 0 ≤ s 1 p 0 ∧ s 1 p 0 ≤ 4) ∧ (∀ p, s 0 0 0 ≤ p → p < 10 → s 1 p 0 = 0 ∧ s 5 p 0 = 0) ∧ (∀ p i, 0 ≤ p → p < s 0 0 0 → 0 ≤ i → i < s 1 p 0 → 0 ≤ s 2 p i ∧ s 2 p i < 6 ∧ (s 3 p i = 0 ∨ s 3 p i = 1) ∧ -20 ≤ s 4 p i ∧ s 4 p i ≤ 50) ∧
  (0 ≤ s 6 0 0 ∧ s 6 0 0 ≤ 30) ∧ (0 ≤ s 7 0 0 ∧ s 7 0 0 ≤ 65535) ∧ (0 ≤ s 9 0 0 ∧ s 9 0 0 ≤ 60) ∧ (∀ j, 0 ≤ j → j < s 9 0 0 → 0 ≤ s 10 0 j ∧ s 10 0 j < 6) ∧ (0 ≤ s 11 0 0 ∧ s 11 0 0 ≤ 20) ∧
  (∀ d, 0 ≤ d → d < s 11 0 0 → (0 ≤ s 12 d 0 ∧ s 12 d 0 ≤ 65535) ∧ (0 ≤ s 13 d 0 ∧ s 13 d 0 ≤ 20) ∧ (0 ≤ s 13 d 1 ∧ s 13 d 1 ≤ 20) ∧ (1 ≤ s 13 d 2 ∧ s 13 d 2 ≤ 9) ∧ (0 ≤ s 13 d 3 ∧ s 13 d 3 ≤ 20) ∧ (1 ≤ s 13 d 4 ∧ s 13 d 4 ≤ 50) ∧ (0 ≤ s 13 d 5 ∧ s 13 d 5 ≤ 9)) ∧
  (∀ d f, 0 ≤ d → d < s 11 0 0 → 0 ≤ f → f < 3 → WDc (s 14 (3 * d + f)) (entS s d f) (dst (s 14 (3 * d + f)) (entS s d f)) ∧ 0 ≤ s 17 (3 * d + f) 0 ∧ s 17 (3 * d + f) 0 < 16 ∧ DOK (s 14 (3 * d + f))) ∧
  (0 ≤ s 18 0 0 ∧ s 18 0 0 ≤ 60) ∧ ∀ r, 0 ≤ r → r < s 18 0 0 → (0 ≤ s 21 r 0 ∧ s 21 r 0 ≤ 60) ∧ (0 ≤ s 23 r 0 ∧ s 23 r 0 < s 11 0 0) ∧ (∀ k, 0 ≤ k → k < s 21 r 0 → 0 ≤ s 20 r k ∧ s 20 r k < 6) ∧ -100 ≤ s 22 r 0 ∧ s 22 r 0 ≤ 1000
def CW (h : ac_H) (x : Int) : Prop := ∃ ad s, RC h x ad s ∧ SI s
theorem RC_PB {h : ac_H} {x : Int} {ad s : sS} (hR : RC h x ad s) (hS : SI s) : 0 < h 900 x 0 ∧ PBk h (h 900 x 0) := by
  obtain ⟨hi, ⟨f1, f2, f3, f4, f5, f6, f7, f8, f9, f10, f11, f12, f13, f14, f15, f16, f17, f18, f19, -⟩, ⟨g1, g2, g3, g4, g5, g6, g7⟩, -, hp, hc, -⟩ := hR
  rw [f4]
  refine ⟨f9, f10, ?_, ?_, ?_, ?_, ?_, ?_, ?_, ?_, ?_, fun i i0 i1 => ?_⟩
  · rw [g7]; exact hS.1.1
  · rw [g7]; exact hS.1.2
  · rw [f11]; exact f14
  · rw [f11]; exact f15
  · rw [f12]; exact f16
  · rw [f12]; exact f17
  · rw [f13]; exact f18
  · rw [f13]; exact f19
  · rw [f12, f13]; intro e; have := hi.1 _ _ _ _ _ _ e; omega
  · rw [g7] at i1
    obtain ⟨p1, p2, p3, p4, p5, p6, p7, p8⟩ := hp i i0 i1
    have e : pk h (ad 1 0 0) i = ad 10 i 0 := by unfold pk; rw [f11, p2]
    have sz := hS.2.1 i i0 (by have := hS.1.2; omega)
    rw [e]
    refine ⟨p1, p3, by rw [p5]; exact sz.1, by rw [p5]; exact sz.2, by rw [p4]; exact p7, by rw [p4]; exact p8, fun j j0 j1 => ?_⟩
    rw [p5] at j1
    obtain ⟨c1, c2, c3, c4, c5, c6⟩ := hc i j i0 i1 j0 j1
    have r := hS.2.2.2.1 i j i0 i1 j0 j1
    unfold pcr
    rw [p4, c2, c4]
    exact ⟨c1, c3, r.1, r.2.1⟩
