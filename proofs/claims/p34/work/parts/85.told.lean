/-! ===== what is told is no exception's number, but for an exception ===== -/
theorem dv_n {how x y z u : Int} {s : sS} (h : XI s) (hc : dCd how x y z u s = 0) : dVl how x y z u s ≠ -9999999 := by
  have hS := h.1
  have s0 := hS.1
  have s2 := hS.2.1
  have s6 := hS.2.2.2.2.1
  have s9 := hS.2.2.2.2.2.2.1
  have s18 := hS.2.2.2.2.2.2.2.2.2.2.2.1
  unfold dCd at hc
  unfold dVl
  by_cases q0 : how = 0
  · rw [if_pos q0]; omega
  rw [if_neg q0] at hc ⊢
  by_cases q1 : how = 1
  · rw [if_pos q1] at hc ⊢
    have c : 0 ≤ x ∧ x < s 0 0 0 := by
      unfold cdChange at hc
      by_cases w : (0 ≤ x ∧ x < s 0 0 0) ∧ 0 ≤ y ∧ y < 6
      · exact w.1
      · rw [if_neg w] at hc; exact absurd hc (by decide)
    have := s2 x c.1 (by omega)
    omega
  rw [if_neg q1] at hc ⊢
  by_cases q2 : how = 2
  · rw [if_pos q2] at hc ⊢
    have c : 0 ≤ x ∧ x < s 0 0 0 := by
      unfold cdMend at hc
      by_cases w : 0 ≤ x ∧ x < s 0 0 0
      · exact w
      · rw [if_neg w] at hc; exact absurd hc (by decide)
    have := s2 x c.1 (by omega)
    omega
  rw [if_neg q2] at hc ⊢
  by_cases q3 : how = 3
  · rw [if_pos q3]; exact h.2.2.2 x
  rw [if_neg q3] at hc ⊢
  by_cases q4 : how = 4
  · rw [if_pos q4]; omega
  rw [if_neg q4] at hc ⊢
  by_cases q5 : how = 5
  · rw [if_pos q5]; omega
  rw [if_neg q5] at hc ⊢
  by_cases q6 : how = 6
  · rw [if_pos q6]; omega
  rw [if_neg q6] at hc ⊢
  by_cases q7 : how = 7
  · rw [if_pos q7] at hc ⊢
    have c : 0 ≤ x ∧ x < s 18 0 0 := by
      unfold cdRun at hc
      by_cases w : 0 ≤ x ∧ x < s 18 0 0
      · exact w
      · rw [if_neg w] at hc; exact absurd hc (by decide)
    have := vj_r hS c.1 c.2
    omega
  rw [if_neg q7] at hc ⊢
  by_cases q8 : how = 8
  · rw [if_pos q8] at hc ⊢
    have c : 0 ≤ y ∧ y < 6 := by
      unfold cdRule at hc
      by_cases w : 0 ≤ y ∧ y < 6
      · exact w
      · rw [if_neg w] at hc; exact absurd hc (by decide)
    have := rls_rg s x c.1 c.2
    have b := (tbz_b c).1
    omega
  rw [if_neg q8] at hc ⊢
  unfold vlOrder
  by_cases w : y < onS s x
  · rw [if_pos w]
    have c : 0 ≤ y := by
      unfold cdOrder at hc
      by_cases w2 : hasA x s ∧ 0 ≤ y
      · exact w2.2
      · rw [if_neg w2] at hc; exact absurd hc (by decide)
    have := (or_rg (set := x) hS (n := y.toNat) (by omega)).1
    omega
  · rw [if_neg w]; decide
theorem dA_ex {how x y z u : Int} {s : sS} (h : XI s) (e : dA how x y z u s = -9999999) : dN how x y z u s = s := by
  unfold dA at e
  unfold dN
  by_cases c : dCd how x y z u s = 0
  · rw [if_pos c] at e; exact absurd e (dv_n h c)
  · rw [if_neg c]
theorem aA_ex {v : Int} {s : sS} (h : XI s) (e : aA v s = -9999999) : aN v s = s := by
  have s9 := h.1.2.2.2.2.2.2.1
  have s18 := h.1.2.2.2.2.2.2.2.2.2.2.2.1
  unfold aA at e
  unfold aN
  by_cases c : lw v 36 < 35
  · rw [if_pos c] at e ⊢; exact dA_ex h e
  · rw [if_neg c] at e
    exfalso
    split at e <;> omega
