/-! ===== ranks ===== -/
theorem ahd_irr {c l n : Int} : ¬ ahd c l n c l n := by
  unfold ahd
  rw [if_pos rfl, if_pos rfl]; omega
theorem ahd_tr {a1 a2 a3 b1 b2 b3 c1 c2 c3 : Int} (h : ahd a1 a2 a3 b1 b2 b3) (h' : ahd b1 b2 b3 c1 c2 c3) : ahd a1 a2 a3 c1 c2 c3 := by
  unfold ahd at *
  (repeat' split at h) <;> (repeat' split at h') <;> (repeat' split) <;> omega
theorem ahd_tot {a1 a2 a3 b1 b2 b3 : Int} (h : a3 ≠ b3) : ahd a1 a2 a3 b1 b2 b3 ∨ ahd b1 b2 b3 a1 a2 a3 := by
  unfold ahd
  by_cases q1 : a1 = b1
  · by_cases q2 : a2 = b2
    · rw [if_pos q1, if_pos q2, if_pos q1.symm, if_pos q2.symm]; omega
    · rw [if_pos q1, if_neg q2, if_pos q1.symm, if_neg (fun e => q2 e.symm)]; omega
  · rw [if_neg q1, if_neg (fun e => q1 e.symm)]; omega
theorem ahd_le {a1 a2 a3 b1 b2 b3 : Int} (h : ahd a1 a2 a3 b1 b2 b3) : b1 ≤ a1 := by
  unfold ahd at h
  split at h <;> omega
/-- run r is ranked in dungeon d -/
def rkn (s : sS) (d r : Int) : Prop := 0 ≤ r ∧ r < s 18 0 0 ∧ s 24 r 0 = -1 ∧ s 23 r 0 = d
theorem ah_irr {s : sS} {r : Int} : ¬ ahS s r r := fun h => ahd_irr h.2
theorem ah_tr {s : sS} {a b c : Int} (h : ahS s b a) (h' : ahS s c b) : ahS s c a := ⟨⟨h.1.1, by rw [h.1.2, h'.1.2]⟩, ahd_tr h.2 h'.2⟩
theorem ah_tot {s : sS} {d a b : Int} (ha : rkn s d a) (hb : rkn s d b) (hne : a ≠ b) : ahS s a b ∨ ahS s b a := by
  obtain ⟨-, -, a3, a4⟩ := ha
  obtain ⟨-, -, b3, b4⟩ := hb
  rcases ahd_tot (a1 := s 22 a 0) (a2 := s 21 a 0) (b1 := s 22 b 0) (b2 := s 21 b 0) hne with q | q
  · exact Or.inr ⟨⟨a3, by rw [a4, b4]⟩, q⟩
  · exact Or.inl ⟨⟨b3, by rw [a4, b4]⟩, q⟩
theorem cn_r (s : sS) (r : Int) : ∀ n, 0 ≤ cnS s r n ∧ cnS s r n ≤ n
  | 0 => by simp [cnS]
  | n + 1 => by have := cn_r s r n; rw [cnS]; split <;> omega
theorem rk_0 (s : sS) (r : Int) : 0 ≤ rkS s r := (cn_r s r _).1
/-- who goes ahead has the lesser rank -/
theorem cn_lt {s : sS} {r i : Int} (h : ahS s r i) (i0 : 0 ≤ i) : ∀ n : Nat, cnS s i n + (if i < n then 1 else 0) ≤ cnS s r n
  | 0 => by
    rw [cnS, cnS, if_neg (by omega)]; omega
  | n + 1 => by
    have ih := cn_lt h i0 n
    rw [cnS, cnS]
    by_cases q : (n : Int) = i
    · rw [if_neg (show ¬ i < (n : Int) by omega)] at ih
      rw [q, if_neg ah_irr, if_pos h, if_pos (by omega)]
      omega
    · have e : (if i < ((n + 1 : Nat) : Int) then (1 : Int) else 0) = if i < (n : Int) then 1 else 0 := by
        by_cases q2 : i < (n : Int)
        · rw [if_pos q2, if_pos (by omega)]
        · rw [if_neg q2, if_neg (by omega)]
      rw [e]
      by_cases q3 : ahS s i n
      · rw [if_pos q3, if_pos (ah_tr q3 h)]; omega
      · rw [if_neg q3]
        split <;> omega
theorem rk_lt {s : sS} {r i : Int} (h : ahS s r i) (i0 : 0 ≤ i) (i1 : i < s 18 0 0) : rkS s i < rkS s r := by
  have := cn_lt h i0 (s 18 0 0).toNat
  unfold rkS
  rw [if_pos (by omega)] at this
  omega
/-- a rank is of one run alone -/
theorem ranked_at {s : sS} {d r : Int} (h : rkn s d r) : vlRanked d (rkS s r) s = r := by
  obtain ⟨r0, r1, r2, r3⟩ := id h
  refine fnd_some r0 (by omega) (decide_eq_true ⟨⟨r2, r3⟩, rfl⟩) fun j j0 j1 => decide_eq_false fun q => ?_
  have hj : rkn s d j := ⟨j0, by omega, q.1.1, q.1.2⟩
  rcases ah_tot h hj (by omega) with w | w
  · have := rk_lt w j0 (by omega); omega
  · have := rk_lt w r0 r1; omega
/-- the last of those ahead -/
theorem cn_last {s : sS} {r : Int} : ∀ n : Nat, 0 < cnS s r n → ∃ x : Int, 0 ≤ x ∧ x < n ∧ ahS s r x ∧ ∀ y : Int, 0 ≤ y → y < n → ahS s r y → rkS s y ≤ rkS s x
  | 0, h => by rw [cnS] at h; omega
  | n + 1, h => by
    rw [cnS] at h
    by_cases q : ahS s r n
    · by_cases q2 : 0 < cnS s r n
      · obtain ⟨x, x0, x1, x2, x3⟩ := cn_last (s := s) (r := r) n q2
        by_cases q3 : rkS s x ≤ rkS s n
        · refine ⟨n, by omega, by omega, q, fun y y0 y1 y2 => ?_⟩
          by_cases e : y = n
          · rw [e]; omega
          · have := x3 y y0 (by omega) y2; omega
        · refine ⟨x, x0, by omega, x2, fun y y0 y1 y2 => ?_⟩
          by_cases e : y = n
          · rw [e]; omega
          · exact x3 y y0 (by omega) y2
      · refine ⟨n, by omega, by omega, q, fun y y0 y1 y2 => ?_⟩
        by_cases e : y = n
        · rw [e]; omega
        · exfalso
          have c : ∀ m : Nat, y < m → 0 < cnS s r m := by
            intro m
            induction m with
            | zero => intro hm; omega
            | succ m ih =>
              intro hm
              have := cn_r s r m
              rw [cnS]
              by_cases e2 : y = m
              · rw [← e2, if_pos y2]; omega
              · have := ih (by omega)
                split <;> omega
          have := c n (by omega)
          omega
    · rw [if_neg q] at h
      obtain ⟨x, x0, x1, x2, x3⟩ := cn_last (s := s) (r := r) n (by omega)
      refine ⟨x, x0, by omega, x2, fun y y0 y1 y2 => ?_⟩
      by_cases e : y = n
      · rw [e] at y2; exact absurd y2 q
      · exact x3 y y0 (by omega) y2
theorem cn_le1 {s : sS} {d r x : Int} (hr : rkn s d r) (hx : rkn s d x) (h : ∀ y : Int, 0 ≤ y → y < s 18 0 0 → ahS s r y → rkS s y ≤ rkS s x) : ∀ n : Nat, (n : Int) ≤ s 18 0 0 → cnS s r n ≤ cnS s x n + (if x < n then 1 else 0)
  | 0, _ => by
    rw [cnS, cnS]; split <;> omega
  | n + 1, hn => by
    have ih := cn_le1 hr hx h n (by omega)
    rw [cnS, cnS]
    by_cases q : (n : Int) = x
    · rw [if_neg (show ¬ x < (n : Int) by omega)] at ih
      rw [if_pos (show x < ((n + 1 : Nat) : Int) by omega)]
      split <;> split <;> omega
    · have e : (if x < ((n + 1 : Nat) : Int) then (1 : Int) else 0) = if x < (n : Int) then 1 else 0 := by
        by_cases q2 : x < (n : Int)
        · rw [if_pos q2, if_pos (by omega)]
        · rw [if_neg q2, if_neg (by omega)]
      rw [e]
      by_cases q3 : ahS s r n
      · have hy : rkn s d n := ⟨by omega, by omega, q3.1.1, by rw [q3.1.2]; exact hr.2.2.2⟩
        rcases ah_tot hx hy (fun e => q e.symm) with w | w
        · rw [if_pos q3, if_pos w]; omega
        · have h1 := rk_lt w hx.1 hx.2.1
          have h2 := h n (by omega) (by omega) q3
          omega
      · rw [if_neg q3]
        split <;> omega
/-- the run of the rank before -/
theorem rank_before {s : sS} {d r : Int} (h : rkn s d r) (hk : 0 < rkS s r) : ∃ x, rkn s d x ∧ rkS s x = rkS s r - 1 ∧ s 22 r 0 ≤ s 22 x 0 := by
  obtain ⟨r0, r1, r2, r3⟩ := id h
  obtain ⟨x, x0, x1, x2, x3⟩ := cn_last (s := s) (r := r) (s 18 0 0).toNat hk
  have e : (((s 18 0 0).toNat : Nat) : Int) = s 18 0 0 := Int.toNat_of_nonneg (by omega)
  rw [e] at x1 x3
  have hx : rkn s d x := ⟨x0, x1, x2.1.1, by rw [x2.1.2]; exact r3⟩
  have a := cn_le1 h hx x3 (s 18 0 0).toNat (by omega)
  rw [if_pos (by omega)] at a
  have b := rk_lt x2 x0 x1
  refine ⟨x, hx, ?_, ahd_le x2.2⟩
  unfold rkS at b ⊢
  omega
theorem mpl_at {s : sS} {r : Int} : ∀ n : Nat, (mpl s r n).1 = -1 ∨ (0 ≤ (mpl s r n).1 ∧ (mpl s r n).1 < n)
  | 0 => Or.inl rfl
  | n + 1 => by
    have ih := mpl_at (s := s) (r := r) n
    rw [mpl]
    split
    · omega
    · split
      · right; show 0 ≤ (n : Int) ∧ (n : Int) < ((n + 1 : Nat) : Int); omega
      · left; rfl
theorem vj_r {s : sS} {r : Int} (hS : SI s) (r0 : 0 ≤ r) (r1 : r < s 18 0 0) : -2 ≤ vlJudge r s ∧ vlJudge r s < 60 := by
  have h := (hS.2.2.2.2.2.2.2.2.2.2.2.2 r r0 r1).1
  have m := mpl_at (s := s) (r := r) (s 21 r 0).toNat
  unfold vlJudge gmS
  split
  · omega
  · split <;> omega
theorem vj_1 {s : sS} {r : Int} (h : vlJudge r s = -1) : (gmS s r).2 3 = s 22 r 0 := by
  unfold vlJudge at h
  by_cases q : (gmS s r).1 ≠ -1
  · rw [if_pos q] at h; exact absurd h q
  · rw [if_neg q] at h
    by_cases q2 : (gmS s r).2 3 = s 22 r 0
    · exact q2
    · rw [if_neg q2] at h; exact absurd h (by decide)
theorem vj_n {s : sS} {r : Int} (h : vlJudge r s < 0) : vlJudge r s = -1 ↔ (gmS s r).2 3 = s 22 r 0 := by
  refine ⟨vj_1, fun e => ?_⟩
  unfold vlJudge at h ⊢
  have m := mpl_at (s := s) (r := r) (s 21 r 0).toNat
  by_cases q : (gmS s r).1 ≠ -1
  · rw [if_pos q] at h ⊢
    unfold gmS at h q
    omega
  · rw [if_neg q, if_pos e]
theorem mtk_4 {s : sS} {d key : Int} {m : Nat → Int} (h : 0 ≤ m 4 ∧ m 4 < 3) : 0 ≤ (mtk s d m key).2 4 ∧ (mtk s d m key).2 4 < 3 := by
  unfold mtk
  split
  · exact h
  · split
    · show 0 ≤ mcm s (3 * d + m 0) (upq m 1 (nb (m 1) key)) 4 ∧ mcm s (3 * d + m 0) (upq m 1 (nb (m 1) key)) 4 < 3
      unfold mcm mc1
      split
      · simp [upq]
      · split
        · simp [upq]; exact h
        · simp [upq]; exact h
    · split
      · show 0 ≤ mdn m 4 ∧ mdn m 4 < 3
        have e4 : mdn m 4 = if m 0 + 1 = 3 then 2 else m 4 := by simp [mdn, upq]
        rw [e4]; split <;> omega
      · show 0 ≤ mrs s d m 4 ∧ mrs s d m 4 < 3
        have e4 : mrs s d m 4 = m 4 := by simp [mrs, upq]
        rw [e4]; exact h
theorem mpl_4 {s : sS} {r : Int} : ∀ n : Nat, 0 ≤ (mpl s r n).2 4 ∧ (mpl s r n).2 4 < 3
  | 0 => by show 0 ≤ m00 s (s 23 r 0) 4 ∧ m00 s (s 23 r 0) 4 < 3; simp [m00]
  | n + 1 => by
    have ih := mpl_4 (s := s) (r := r) n
    have k := mtk_4 (s := s) (d := s 23 r 0) (key := s 20 r n) ih
    rw [mpl]
    split
    · exact ih
    · split
      · exact k
      · exact k
/-! the dungeon of a run that is handed in -/
theorem td_hand {s : sS} (hS : SI s) (h : drD s ≠ -1) {p c : Int} : vlToday (FHand p c s) = drD s ∧ (vlToday s = -1 → drD s = s 11 0 0) ∧ (vlToday s ≠ -1 → drD s = vlToday s) := by
  have n0 := hS.2.2.2.2.2.2.2.2.1.1
  have ho : tdO s := by
    by_cases c : tdO s
    · exact c
    · unfold drD at h; rw [if_neg c] at h; exact absurd rfl h
  have vt : vlToday s = tdD s := if_pos ho
  have hr : ∀ s' : sS, (∀ k, k < 6 → s' k = s k) → s' 8 = s 8 → ∀ set, onS s' set = onS s set ∧ psb s' set = psb s set ∧ rls s' set = rls s set := fun s' hk _ set => by
    have a0 := hk 0 (by decide)
    have a1 := hk 1 (by decide)
    have a2 := hk 2 (by decide)
    have a3 := hk 3 (by decide)
    have a4 := hk 4 (by decide)
    have a5 := hk 5 (by decide)
    unfold rls orS psb onS nds
    rw [a0, a1, a2, a3, a4, a5]
    exact ⟨rfl, rfl, rfl⟩
  have hf : ∀ k, k ≠ 9 ∧ (k < 18 ∨ 24 < k) → ∀ s', FRun p c (drD s) s' k = s' k := fun k hk s' => FRun_k hk
  have key : ∀ s' : sS, (∀ k, k < 11 → k ≠ 9 → s' k = s k) → fnd (hdS s' (tdR s)) (s' 11 0 0).toNat = drD s → vlToday s' = drD s := by
    intro s' hk he
    obtain ⟨e1, e2, e3⟩ := hr s' (fun k hk2 => hk k (by omega) (by omega)) (hk 8 (by decide) (by decide)) (s 8 0 0)
    have o : tdO s' := by
      unfold tdO
      rw [hk 6 (by decide) (by decide), hk 8 (by decide) (by decide), e2]
      exact ho
    have r : tdR s' = tdR s := by unfold tdR; rw [hk 8 (by decide) (by decide), e3]
    unfold vlToday tdD
    rw [if_pos o, r]
    exact he
  have hds : ∀ s' : sS, ∀ i, s' 12 i 0 = s 12 i 0 → s' 13 i = s 13 i → s' 7 = s 7 → hdS s' (tdR s) i = hdS s (tdR s) i := fun s' i a b c => by
    unfold hdS; rw [a, b, c]
  refine ⟨?_, fun e => ?_, fun e => ?_⟩
  · refine key _ (fun k k1 k9 => ?_) ?_
    · unfold FHand
      rw [hf k ⟨k9, by omega⟩, FDR_k (by omega)]
    · have a11 : FHand p c s 11 = FDR s 11 := hf 11 (by decide) _
      have a12 : FHand p c s 12 = FDR s 12 := hf 12 (by decide) _
      have a13 : FHand p c s 13 = FDR s 13 := hf 13 (by decide) _
      have a7 : FHand p c s 7 = s 7 := by show FRun p c (drD s) (FDR s) 7 = s 7; rw [hf 7 (by decide), FDR_k (by omega)]
      rw [a11]
      by_cases q : tdO s ∧ tdD s = -1 ∧ s 11 0 0 < 20
      · obtain ⟨f1, f2⟩ := FDR_y q
        rw [f1] at a12 a13
        rw [f1, f2, FDun_11]
        have no := fnd_cases (P := hdS s (tdR s)) (s 11 0 0).toNat
        have no2 : ∀ j : Int, 0 ≤ j → j < (s 11 0 0).toNat → hdS s (tdR s) j = false := by
          rcases no with ⟨-, w⟩ | ⟨w, -, -, -⟩
          · exact w
          · have := q.2.1; unfold tdD at this; omega
        refine fnd_some n0 (by omega) ?_ fun j j0 j1 => ?_
        · unfold hdS
          rw [a12, a13, a7, FDun_n.1, FDun_n.2]
          exact decide_eq_true ⟨rfl, rfl, rfl, rfl, rfl, rfl, rfl⟩
        · rw [hds _ j (by rw [a12, (FDun_o j1).1]) (by rw [a13, (FDun_o j1).2]) a7]
          exact no2 j j0 (by omega)
      · obtain ⟨f1, f2⟩ := FDR_n q
        rw [f1] at a12 a13
        rw [f1, f2, if_pos ho]
        unfold tdD
        exact fnd_congr _ fun i i0 i1 => hds _ i (by rw [a12]) (by rw [a13]) a7
  · rw [vt] at e
    unfold drD at h ⊢
    rw [if_pos ho, if_pos e] at h ⊢
    by_cases w : s 11 0 0 < 20
    · rw [if_pos w]
    · rw [if_neg w] at h; exact absurd rfl h
  · rw [vt] at e ⊢
    unfold drD
    rw [if_pos ho, if_neg e]
