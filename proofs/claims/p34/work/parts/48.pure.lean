theorem six_c {p : Int} (h : 0 ≤ p ∧ p < 6) : p = 0 ∨ p = 1 ∨ p = 2 ∨ p = 3 ∨ p = 4 ∨ p = 5 := by omega
/-- places below n that do not stand -/
def fcn (st : Int) : Nat → Nat
  | 0 => 0
  | n + 1 => fcn st n + (if lb st n = true then 0 else 1)
theorem fcn_le (st : Int) : ∀ n, fcn st n ≤ n
  | 0 => by simp [fcn]
  | n + 1 => by
    have := fcn_le st n
    rw [fcn]; split <;> omega
theorem fcn_pos {st : Int} {i : Nat} : ∀ n, i < n → lb st i = false → 0 < fcn st n
  | 0, h, _ => by omega
  | n + 1, h, e => by
    rw [fcn]
    by_cases q : i = n
    · subst q; simp [e]
    · have := fcn_pos n (by omega) e
      omega
theorem fcn_set {st : Int} {p : Nat} (hp : p < 32) (e : lb st p = false) : ∀ n, n ≤ 32 → fcn (ior st (ishl 1 p)) n + (if p < n then 1 else 0) = fcn st n
  | 0, _ => by simp [fcn]
  | n + 1, hn => by
    have ih := fcn_set hp e n (by omega)
    have w : lb (ior st (ishl 1 p)) n = (lb st n || decide ((n : Int) = p)) := by rw [lb_or, lb_shl (by omega) (by omega) (by omega) (by omega)]
    rw [fcn, fcn, w]
    by_cases q : p = n
    · subst q
      rw [if_neg (show ¬ p < p by omega)] at ih
      rw [if_pos (show p < p + 1 by omega)]
      simp [e]
      omega
    · have q2 : ¬ ((n : Int) = p) := by omega
      by_cases q3 : p < n
      · rw [if_pos q3] at ih
        rw [if_pos (show p < n + 1 by omega)]
        simp only [q2, decide_false, Bool.or_false]
        omega
      · rw [if_neg q3] at ih
        rw [if_neg (show ¬ p < n + 1 by omega)]
        simp only [q2, decide_false, Bool.or_false]
        omega
/-! ===== all rooms are found ===== -/
theorem fcn_ex {st : Int} : ∀ n : Nat, 0 < fcn st n → ∃ r : Nat, r < n ∧ lb st r = false
  | 0, h => by simp [fcn] at h
  | n + 1, h => by
    rw [fcn] at h
    by_cases q : lb st n = true
    · rw [if_pos q] at h
      obtain ⟨r, a, b⟩ := fcn_ex n (by omega)
      exact ⟨r, by omega, b⟩
    · exact ⟨n, by omega, by simpa using q⟩
theorem cl_0 {b : Int} (hc : ∀ r d : Int, 0 ≤ r → r < 16 → 0 ≤ d → d < 4 → lb b r = true → nb r d ≠ -1 → lb b (nb r d) = true) : ∀ n : Nat, n < 16 → lb b n = true → lb b 0 = true := by
  intro n
  induction n using Nat.strongRecOn with
  | ind n ih =>
    intro hn h
    by_cases z : n = 0
    · subst z; exact h
    by_cases q : (n : Int) % 4 ≤ 0
    · have e : nb n 0 = (n : Int) - 4 := by unfold nb; rw [if_pos rfl, if_neg (by omega)]
      have := hc n 0 (by omega) (by omega) (by omega) (by omega) h (by omega)
      rw [e] at this
      have e2 : ((n - 4 : Nat) : Int) = (n : Int) - 4 := by omega
      rw [← e2] at this
      exact ih (n - 4) (by omega) (by omega) this
    · have e : nb n 1 = (n : Int) - 1 := by unfold nb; rw [if_neg (by omega), if_pos rfl, if_neg q]
      have := hc n 1 (by omega) (by omega) (by omega) (by omega) h (by omega)
      rw [e] at this
      have e2 : ((n - 1 : Nat) : Int) = (n : Int) - 1 := by omega
      rw [← e2] at this
      exact ih (n - 1) (by omega) (by omega) this
theorem cl_n {b : Int} (hc : ∀ r d : Int, 0 ≤ r → r < 16 → 0 ≤ d → d < 4 → lb b r = true → nb r d ≠ -1 → lb b (nb r d) = true) (h0 : lb b 0 = true) : ∀ n : Nat, n < 16 → lb b n = true := by
  intro n
  induction n using Nat.strongRecOn with
  | ind n ih =>
    intro hn
    by_cases z : n = 0
    · subst z; exact h0
    by_cases q : (n : Int) % 4 ≤ 0
    · have e2 : ((n - 4 : Nat) : Int) = (n : Int) - 4 := by omega
      have e : nb ((n - 4 : Nat) : Int) 3 = n := by rw [e2]; unfold nb; rw [if_neg (by omega), if_neg (by omega), if_neg (by omega), if_neg (by omega)]; omega
      have := hc ((n - 4 : Nat) : Int) 3 (by omega) (by omega) (by omega) (by omega) (ih (n - 4) (by omega) (by omega)) (by omega)
      rw [e] at this
      exact this
    · have e2 : ((n - 1 : Nat) : Int) = (n : Int) - 1 := by omega
      have e : nb ((n - 1 : Nat) : Int) 2 = n := by rw [e2]; unfold nb; rw [if_neg (by omega), if_neg (by omega), if_pos rfl, if_neg (by omega)]; omega
      have := hc ((n - 1 : Nat) : Int) 2 (by omega) (by omega) (by omega) (by omega) (ih (n - 1) (by omega) (by omega)) (by omega)
      rw [e] at this
      exact this
theorem conn {b r0 : Int} (h0 : 0 ≤ r0) (h1 : r0 < 16) (hb : lb b r0 = true) (hf : 0 < fcn b 16) : ∃ r d, 0 ≤ r ∧ r < 16 ∧ 0 ≤ d ∧ d < 4 ∧ lb b r = true ∧ nb r d ≠ -1 ∧ lb b (nb r d) = false := by
  by_cases q : ∃ r d, 0 ≤ r ∧ r < 16 ∧ 0 ≤ d ∧ d < 4 ∧ lb b r = true ∧ nb r d ≠ -1 ∧ lb b (nb r d) = false
  · exact q
  · exfalso
    have hc : ∀ r d : Int, 0 ≤ r → r < 16 → 0 ≤ d → d < 4 → lb b r = true → nb r d ≠ -1 → lb b (nb r d) = true := fun r d a1 a2 a3 a4 a5 a6 => by
      cases e : lb b (nb r d)
      · exact absurd ⟨r, d, a1, a2, a3, a4, a5, a6, e⟩ q
      · rfl
    obtain ⟨r, ra, rb⟩ := fcn_ex 16 hf
    have e : ((r0.toNat : Nat) : Int) = r0 := Int.toNat_of_nonneg h0
    have := cl_n hc (cl_0 hc r0.toNat (by omega) (by rw [e]; exact hb)) r ra
    rw [rb] at this
    exact absurd this (by decide)
theorem lb_bt {b i : Int} (h0 : 0 ≤ i) (h1 : i < 32) : lb b i = false ↔ bt b i = 0 := by
  rw [bt_lb h0 h1]
  cases lb b i <;> simp
theorem d2n_ne {r t b d : Int} (d0 : 0 ≤ d) (d1 : d < 4) (hn : nb r d ≠ -1) (hb : bt b (nb r d) = 0) (t0 : 0 ≤ t) : d2n r t b ≠ -1 := by
  unfold d2n
  rcases fnd_cases (P := d2p r t b) 4 with ⟨e1, e2⟩ | ⟨e1, e2, -⟩
  · exfalso
    have e : (t + (d - t) % 4) % 4 = d := by omega
    have := e2 ((d - t) % 4) (by omega) (by omega)
    unfold d2p at this
    rw [e] at this
    exact of_decide_eq_false this ⟨hn, hb⟩
  · rw [if_neg (by omega)]
    omega
theorem md1 (a k : Int) : (a % k + 1) % k = (a + 1) % k := by rw [Int.add_emod, Int.emod_emod, ← Int.add_emod]
theorem md_at {s j k : Int} (s0 : 0 ≤ s) (s1 : s < k) (j0 : 0 ≤ j) (j1 : j < k) : ∃ i, 0 ≤ i ∧ i < k ∧ (s + i) % k = j := by
  by_cases q : s ≤ j
  · exact ⟨j - s, by omega, by omega, by rw [show s + (j - s) = j by omega]; exact Int.emod_eq_of_lt j0 j1⟩
  · refine ⟨j - s + k, by omega, by omega, ?_⟩
    rw [show s + (j - s + k) = j + k by omega, Int.add_emod_right]
    exact Int.emod_eq_of_lt j0 j1
/-- what is found after n rooms more -/
def GI (T : (Int → Int) × Int × (Int → Int)) (n : Nat) : Prop := (∀ j : Int, 0 ≤ j → j ≤ n → 0 ≤ T.1 j ∧ T.1 j < 16 ∧ lb T.2.1 (T.1 j) = true) ∧ (∀ r : Int, 0 ≤ r → r < 16 → lb T.2.1 r = true → ∃ j : Int, 0 ≤ j ∧ j ≤ n ∧ T.1 j = r) ∧ fcn T.2.1 16 + (n + 1) = 16
theorem GI_gwi {T : (Int → Int) × Int × (Int → Int)} {n : Nat} {s t : Int} (h : GI T n) (hn : n < 15) (s0 : 0 ≤ s) (s1 : s < (n : Int) + 1) (t0 : 0 ≤ t) : gwi T.1 T.2.1 s t (n + 1) ≠ -1 := by
  obtain ⟨h1, h2, h3⟩ := h
  have z := h1 0 (by omega) (by omega)
  obtain ⟨r, d, a1, a2, a3, a4, a5, a6, a7⟩ := conn z.1 z.2.1 z.2.2 (by omega)
  obtain ⟨j, j0, j1, j2⟩ := h2 r a1 a2 a5
  obtain ⟨i, i0, i1, i2⟩ := md_at s0 s1 j0 (show j < (n : Int) + 1 by omega)
  have nn := (nb_r (d := d) a1 a2).resolve_left a6
  unfold gwi
  rcases fnd_cases (P := fun i => decide (d2n (T.1 ((s + i) % ((n + 1 : Nat) : Int))) t T.2.1 ≠ -1)) (n + 1) with ⟨e1, e2⟩ | ⟨e1, e2, -⟩
  · exfalso
    have := e2 i i0 (by omega)
    rw [show ((n + 1 : Nat) : Int) = (n : Int) + 1 from rfl, i2, j2] at this
    exact of_decide_eq_false this (d2n_ne a3 a4 a6 ((lb_bt nn.1 (by omega)).mp a7) t0)
  · omega
theorem GI_s {T : (Int → Int) × Int × (Int → Int)} {n : Nat} {s t : Int} (h : GI T n) (hn : n < 15) (s0 : 0 ≤ s) (s1 : s < (n : Int) + 1) (t0 : 0 ≤ t) : GI (gws T (n + 1) s t) (n + 1) := by
  have g := GI_gwi h hn s0 s1 t0
  obtain ⟨h1, h2, h3⟩ := h
  have c := fnd_cases (P := fun i => decide (d2n (T.1 ((s + i) % ((n + 1 : Nat) : Int))) t T.2.1 ≠ -1)) (n + 1)
  rcases c with ⟨e1, -⟩ | ⟨e1, e2, e3, -⟩
  · exact absurd e1 g
  have e4 := of_decide_eq_true e3
  unfold gws
  rw [if_neg g]
  dsimp only
  change d2n (T.1 ((s + gwi T.1 T.2.1 s t (n + 1)) % ((n + 1 : Nat) : Int))) t T.2.1 ≠ -1 at e4
  have m0 := Int.emod_nonneg (s + gwi T.1 T.2.1 s t (n + 1)) (show ((n + 1 : Nat) : Int) ≠ 0 by omega)
  have m1 := Int.emod_lt_of_pos (s + gwi T.1 T.2.1 s t (n + 1)) (show (0 : Int) < ((n + 1 : Nat) : Int) by omega)
  have hr := h1 _ m0 (by omega)
  generalize T.1 ((s + gwi T.1 T.2.1 s t (n + 1)) % ((n + 1 : Nat) : Int)) = r at e4 hr ⊢
  obtain ⟨d0, d1, d2, d3⟩ := d2n_ok e4 t0
  have nn := (nb_r (d := d2n r t T.2.1) hr.1 hr.2.1).resolve_left d2
  generalize nb r (d2n r t T.2.1) = w at d3 nn ⊢
  have lw : lb T.2.1 w = false := (lb_bt nn.1 (by omega)).mpr d3
  have ls : ∀ j : Int, 0 ≤ j → j < 16 → lb (ior T.2.1 (ishl 1 w)) j = (lb T.2.1 j || decide (j = w)) := fun j j0 j1 => by rw [lb_or, lb_shl nn.1 (by omega) j0 (by omega)]
  refine ⟨fun j j0 j1 => ?_, fun q q0 q1 hq => ?_, ?_⟩
  · show 0 ≤ fu T.1 ((n + 1 : Nat) : Int) w j ∧ fu T.1 ((n + 1 : Nat) : Int) w j < 16 ∧ lb (ior T.2.1 (ishl 1 w)) (fu T.1 ((n + 1 : Nat) : Int) w j) = true
    unfold fu
    by_cases e : j = ((n + 1 : Nat) : Int)
    · rw [if_pos e]
      exact ⟨nn.1, nn.2, by rw [ls w nn.1 nn.2]; simp⟩
    · rw [if_neg e]
      have := h1 j j0 (by omega)
      exact ⟨this.1, this.2.1, by rw [ls _ this.1 this.2.1, this.2.2]; rfl⟩
  · change lb (ior T.2.1 (ishl 1 w)) q = true at hq
    show ∃ j : Int, 0 ≤ j ∧ j ≤ ((n + 1 : Nat) : Int) ∧ fu T.1 ((n + 1 : Nat) : Int) w j = q
    rw [ls q q0 q1] at hq
    by_cases e : q = w
    · exact ⟨((n + 1 : Nat) : Int), by omega, by omega, by rw [fu, if_pos rfl]; exact e.symm⟩
    · simp [e] at hq
      obtain ⟨j, j0, j1, j2⟩ := h2 q q0 q1 hq
      exact ⟨j, j0, by omega, by rw [fu, if_neg (by omega)]; exact j2⟩
  · show fcn (ior T.2.1 (ishl 1 w)) 16 + (n + 1 + 1) = 16
    have a := fcn_set (st := T.2.1) (p := w.toNat) (by omega) (by rw [Int.toNat_of_nonneg nn.1]; exact lw) 16 (by omega)
    rw [if_pos (by omega), Int.toNat_of_nonneg nn.1] at a
    omega
theorem GI_n {x e : Int} {D : Int → Int} (hx : 0 ≤ x ∧ x < 65537) (he : 0 ≤ e ∧ e < 16) : ∀ n : Nat, n ≤ 15 → GI (gwT x e D n) n
  | 0, _ => by
    have ls : ∀ j : Int, 0 ≤ j → j < 16 → lb (ishl 1 e) j = decide (j = e) := fun j j0 j1 => lb_shl he.1 (by omega) j0 (by omega)
    refine ⟨fun j j0 j1 => ?_, fun r r0 r1 hr => ?_, ?_⟩
    · have : j = 0 := by omega
      subst this
      show 0 ≤ fu (fun _ => 0) 0 e 0 ∧ fu (fun _ => 0) 0 e 0 < 16 ∧ lb (ishl 1 e) (fu (fun _ => 0) 0 e 0) = true
      unfold fu
      rw [if_pos rfl]
      exact ⟨he.1, he.2, by rw [ls e he.1 he.2]; simp⟩
    · change lb (ishl 1 e) r = true at hr
      rw [ls r r0 r1] at hr
      exact ⟨0, by omega, by omega, by show fu (fun _ => 0) 0 e 0 = r; rw [fu, if_pos rfl]; exact (of_decide_eq_true hr).symm⟩
    · show fcn (ishl 1 e) 16 + (0 + 1) = 16
      have z : ishl 1 e = ior 0 (ishl 1 e) := by
        have h := he
        have c : e = 0 ∨ e = 1 ∨ e = 2 ∨ e = 3 ∨ e = 4 ∨ e = 5 ∨ e = 6 ∨ e = 7 ∨ e = 8 ∨ e = 9 ∨ e = 10 ∨ e = 11 ∨ e = 12 ∨ e = 13 ∨ e = 14 ∨ e = 15 := by omega
        rcases c with rfl | rfl | rfl | rfl | rfl | rfl | rfl | rfl | rfl | rfl | rfl | rfl | rfl | rfl | rfl | rfl <;> decide
      have a := fcn_set (st := 0) (p := e.toNat) (by omega) lb_0 16 (by omega)
      rw [if_pos (by omega), Int.toNat_of_nonneg he.1, ← z] at a
      have : fcn 0 16 = 16 := by simp [fcn, lb_0]
      omega
  | n + 1, hn => by
    rw [gwT]
    exact GI_s (GI_n hx he n (by omega)) (by omega) (Int.emod_nonneg _ (by omega)) (Int.emod_lt_of_pos _ (by omega)) (xk_r hx _).1
