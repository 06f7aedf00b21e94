/-! ===== how far the rooms are: the search, the rounds by doors ===== -/
def cfr (f : Int → Int) : Nat → Int
  | 0 => 0
  | n + 1 => cfr f n + (if f n = -1 then 0 else 1)
theorem cfr_le (f : Int → Int) : ∀ n, 0 ≤ cfr f n ∧ cfr f n ≤ n
  | 0 => by simp [cfr]
  | n + 1 => by have := cfr_le f n; rw [cfr]; split <;> omega
theorem cfr_fu {f : Int → Int} {r v : Int} (hr : f r = -1) (hv : v ≠ -1) : ∀ n : Nat, cfr (fu f r v) n = cfr f n + (if 0 ≤ r ∧ r < n then 1 else 0)
  | 0 => by
    rw [cfr, cfr, if_neg (by omega)]; rfl
  | n + 1 => by
    rw [cfr, cfr, cfr_fu hr hv n]
    by_cases e : (n : Int) = r
    · subst e
      rw [if_neg (by omega), if_pos (show 0 ≤ (n : Int) ∧ (n : Int) < ((n + 1 : Nat) : Int) by omega), show fu f (n : Int) v n = v by simp [fu], if_neg hv, hr, if_pos rfl]
    · rw [show fu f r v n = f n by simp [fu, e]]
      generalize (if f (n : Int) = -1 then (0 : Int) else 1) = w
      by_cases q : 0 ≤ r ∧ r < n
      · rw [if_pos q, if_pos (show 0 ≤ r ∧ r < ((n + 1 : Nat) : Int) by omega)]; omega
      · rw [if_neg q, if_neg (show ¬ (0 ≤ r ∧ r < ((n + 1 : Nat) : Int)) by omega)]; omega
theorem cfr_lt {f : Int → Int} {r : Int} {n : Nat} (hr : f r = -1) (h0 : 0 ≤ r) (h1 : r < n) : cfr f n < n := by
  have h := cfr_fu (v := 0) hr (by omega) n
  rw [if_pos ⟨h0, h1⟩] at h
  have := (cfr_le (fu f r 0) n).2
  omega
theorem ag_rf (h : ac_H) : ag h h := fun _ _ _ _ => rfl
/-- far is how far each room is from e, -1 for those that can't be reached -/
def WD (f : Int → Int) (e : Int) (far : Int → Int) : Prop := far e = 0 ∧ (∀ r, 0 ≤ r → r < 16 → -1 ≤ far r ∧ far r ≤ 15) ∧
  (∀ r d, 0 ≤ r → r < 16 → 0 ≤ d → d < 4 → far r ≠ -1 → bhd f r d ≠ -1 → far (bhd f r d) ≠ -1 ∧ far (bhd f r d) ≤ far r + 1) ∧
  ∀ r, 0 ≤ r → r < 16 → far r ≠ -1 → r ≠ e → ∃ u d, 0 ≤ u ∧ u < 16 ∧ 0 ≤ d ∧ d < 4 ∧ far u ≠ -1 ∧ bhd f u d = r ∧ far r = far u + 1
theorem bhd_r {f : Int → Int} {r d : Int} (h0 : 0 ≤ r) (h1 : r < 16) : bhd f r d = -1 ∨ (0 ≤ bhd f r d ∧ bhd f r d < 16) := by
  unfold bhd
  split
  · exact Or.inl rfl
  · exact nb_r h0 h1
theorem WD_le {f far far' : Int → Int} {e : Int} (h : WD f e far) (h' : WD f e far') : ∀ (n : Nat) (r : Int), 0 ≤ r → r < 16 → far' r = n → far r ≠ -1 ∧ far r ≤ n
  | n, r, r0, r1, hn => by
    by_cases q : r = e
    · subst q
      rw [h.1]; omega
    · obtain ⟨u, d, u0, u1, d0, d1, hu, hb, hr⟩ := h'.2.2.2 r r0 r1 (by omega) q
      have hu2 := (h'.2.1 u u0 u1).1
      obtain ⟨m, rfl⟩ : ∃ m, n = m + 1 := ⟨n - 1, by omega⟩
      obtain ⟨i1, i2⟩ := WD_le h h' m u u0 u1 (by omega)
      have h3 := h.2.2.1 u d u0 u1 d0 d1 i1 (by rw [hb]; omega)
      rw [hb] at h3
      exact ⟨h3.1, by omega⟩
theorem WD_eq {f far far' : Int → Int} {e : Int} (h : WD f e far) (h' : WD f e far') {r : Int} (r0 : 0 ≤ r) (r1 : r < 16) : far r = far' r := by
  have a := h.2.1 r r0 r1
  have b := h'.2.1 r r0 r1
  by_cases q : far' r = -1
  · by_cases q2 : far r = -1
    · omega
    · exact absurd q (WD_le h' h (far r).toNat r r0 r1 (by omega)).1
  · have c := WD_le h h' (far' r).toNat r r0 r1 (by omega)
    have d := WD_le h' h (far r).toNat r r0 r1 (by omega)
    omega
theorem WD_congr {f far far' : Int → Int} {e : Int} (he : 0 ≤ e ∧ e < 16) (h : WD f e far) (hq : ∀ r, 0 ≤ r → r < 16 → far' r = far r) : WD f e far' := by
  refine ⟨by rw [hq e he.1 he.2]; exact h.1, fun r a b => by rw [hq r a b]; exact h.2.1 r a b, fun r d r0 r1 d0 d1 hf hb => ?_, fun r r0 r1 hf hr => ?_⟩
  · rw [hq r r0 r1] at hf ⊢
    have := (bhd_r (f := f) (d := d) r0 r1).resolve_left hb
    rw [hq _ this.1 this.2]
    exact h.2.2.1 r d r0 r1 d0 d1 hf hb
  · rw [hq r r0 r1] at hf ⊢
    obtain ⟨u, d, u0, u1, d0, d1, hu, hb, hr⟩ := h.2.2.2 r r0 r1 hf hr
    exact ⟨u, d, u0, u1, d0, d1, by rw [hq u u0 u1]; exact hu, hb, by rw [hq u u0 u1]; exact hr⟩
theorem FPk_WD {f far : Int → Int} {e : Int} (h : WD f e far) : FPk far e := by
  refine ⟨h.1, fun r r0 r1 hr => ?_⟩
  by_cases q : r = e
  · exact q
  · obtain ⟨u, d, u0, u1, d0, d1, hu, hb, h2⟩ := h.2.2.2 r r0 r1 (by omega) q
    have := (h.2.1 u u0 u1).1
    omega
/-- the search under way -/
def BI (f : Int → Int) (e : Int) (far li : Int → Int) (cnt i dir : Int) : Prop :=
  (1 ≤ cnt ∧ cnt ≤ 16 ∧ 0 ≤ i ∧ i ≤ cnt ∧ 0 ≤ dir ∧ dir ≤ 4 ∧ 0 ≤ e ∧ e < 16) ∧
  (∀ j, 0 ≤ j → j < cnt → 0 ≤ li j ∧ li j < 16 ∧ 0 ≤ far (li j) ∧ far (li j) ≤ j) ∧
  (∀ r, 0 ≤ r → r < 16 → -1 ≤ far r ∧ (far r ≠ -1 → ∃ j, 0 ≤ j ∧ j < cnt ∧ li j = r)) ∧ far e = 0 ∧
  (∀ j j', 0 ≤ j → j ≤ j' → j' < cnt → far (li j) ≤ far (li j')) ∧
  (∀ j, 0 ≤ j → j < cnt → i < cnt → far (li j) ≤ far (li i) + 1) ∧
  (∀ j d, 0 ≤ j → j < cnt → 0 ≤ d → d < 4 → (j < i ∨ (j = i ∧ d < dir)) → bhd f (li j) d ≠ -1 → far (bhd f (li j) d) ≠ -1 ∧ far (bhd f (li j) d) ≤ far (li j) + 1) ∧
  (∀ r, 0 ≤ r → r < 16 → far r ≠ -1 → r ≠ e → ∃ u d, 0 ≤ u ∧ u < 16 ∧ 0 ≤ d ∧ d < 4 ∧ far u ≠ -1 ∧ bhd f u d = r ∧ far r = far u + 1) ∧ cfr far 16 = cnt
theorem BI_0 {f : Int → Int} {e : Int} {far li : Int → Int} (he : 0 ≤ e ∧ e < 16) (hf : ∀ r, 0 ≤ r → r < 16 → far r = if r = e then 0 else -1) (hl : li 0 = e) : BI f e far li 1 0 0 := by
  have fe : far e = 0 := by rw [hf e he.1 he.2, if_pos rfl]
  refine ⟨by omega, fun j a b => ?_, fun r a b => ⟨by rw [hf r a b]; split <;> omega, fun q => ⟨0, by omega, by omega, ?_⟩⟩, fe, fun j j' a b c => ?_, fun j a b c => ?_, fun j d a b c c2 c3 => by omega, fun r a b c d => ?_, ?_⟩
  · rw [show j = 0 by omega, hl, fe]; omega
  · rw [hf r a b] at q
    by_cases q2 : r = e
    · rw [hl, q2]
    · rw [if_neg q2] at q; exact absurd rfl q
  · rw [show j = j' by omega]; exact Int.le_refl _
  · rw [show j = 0 by omega]; omega
  · rw [hf r a b, if_neg d] at c; exact absurd rfl c
  · have h0 : ∀ n : Nat, n ≤ 16 → cfr far n = if e < n then 1 else 0 := by
      intro n
      induction n with
      | zero => intro _; simp [cfr]; omega
      | succ n ih =>
        intro hn
        rw [cfr, ih (by omega), hf n (by omega) (by omega)]
        by_cases q : (n : Int) = e
        · rw [if_pos q, if_neg (show ¬ e < (n : Int) by omega), if_neg (by omega), if_pos (by omega)]; omega
        · rw [if_neg q]
          by_cases q2 : e < (n : Int)
          · rw [if_pos q2, if_pos rfl, if_pos (by omega)]; omega
          · rw [if_neg q2, if_pos rfl, if_neg (by omega)]; omega
    rw [h0 16 (by omega), if_pos (by omega)]
theorem BI_skip {f : Int → Int} {e : Int} {far li : Int → Int} {cnt i dir : Int} (h : BI f e far li cnt i dir) (hi : i < cnt) (hd : dir < 4) (hs : bhd f (li i) dir = -1 ∨ far (bhd f (li i) dir) ≠ -1) : BI f e far li cnt i (dir + 1) := by
  obtain ⟨h1, h2, h3, h4, h5, h6, h7, h8, h9⟩ := h
  refine ⟨by omega, h2, h3, h4, h5, h6, fun j d a b c c2 c3 hb => ?_, h8, h9⟩
  by_cases q : j = i ∧ d = dir
  · obtain ⟨rfl, rfl⟩ := q
    have hf := hs.resolve_left hb
    refine ⟨hf, ?_⟩
    obtain ⟨l0, l1, -⟩ := h2 j a b
    have hr := (bhd_r (f := f) (d := d) l0 l1).resolve_left hb
    obtain ⟨j', p0, p1, p2⟩ := (h3 _ hr.1 hr.2).2 hf
    have := h6 j' p0 p1 hi
    rw [p2] at this
    exact this
  · exact h7 j d a b c c2 (by omega) hb
theorem BI_next {f : Int → Int} {e : Int} {far li : Int → Int} {cnt i : Int} (h : BI f e far li cnt i 4) (hi : i < cnt) : BI f e far li cnt (i + 1) 0 := by
  obtain ⟨h1, h2, h3, h4, h5, h6, h7, h8, h9⟩ := h
  refine ⟨by omega, h2, h3, h4, h5, fun j a b c => ?_, fun j d a b c c2 c3 hb => h7 j d a b c c2 (by omega) hb, h8, h9⟩
  have a1 := h6 j a b hi
  have a2 := h5 i (i + 1) (by omega) (by omega) c
  omega
theorem BI_end {f : Int → Int} {e : Int} {far li : Int → Int} {cnt i : Int} (h : BI f e far li cnt i 0) (hi : cnt ≤ i) : WD f e far := by
  obtain ⟨h1, h2, h3, h4, h5, h6, h7, h8, h9⟩ := h
  refine ⟨h4, fun r a b => ⟨(h3 r a b).1, ?_⟩, fun r d a b c c2 hf hb => ?_, h8⟩
  · by_cases q : far r = -1
    · omega
    · obtain ⟨j, p0, p1, p2⟩ := (h3 r a b).2 q
      have := (h2 j p0 p1).2.2.2
      rw [p2] at this
      omega
  · obtain ⟨j, p0, p1, p2⟩ := (h3 r a b).2 hf
    have := h7 j d p0 p1 c c2 (by omega) (by rw [p2]; exact hb)
    rw [p2] at this
    exact this
theorem BI_lt {f : Int → Int} {e : Int} {far li : Int → Int} {cnt i dir : Int} (h : BI f e far li cnt i dir) (hi : i < cnt) (hb : bhd f (li i) dir ≠ -1) (hf : far (bhd f (li i) dir) = -1) : cnt < 16 := by
  obtain ⟨h1, h2, h3, h4, h5, h6, h7, h8, h9⟩ := h
  obtain ⟨l0, l1, -⟩ := h2 i (by omega) hi
  have hr := (bhd_r (f := f) (d := dir) l0 l1).resolve_left hb
  have := cfr_lt (n := 16) hf hr.1 (by omega)
  omega
theorem BI_add {f : Int → Int} {e : Int} {far li : Int → Int} {cnt i dir : Int} (h : BI f e far li cnt i dir) (hi : i < cnt) (hd : dir < 4) (hb : bhd f (li i) dir ≠ -1) (hf : far (bhd f (li i) dir) = -1) :
    BI f e (fu far (bhd f (li i) dir) (far (li i) + 1)) (fu li cnt (bhd f (li i) dir)) (cnt + 1) i (dir + 1) := by
  have h16 := BI_lt h hi hb hf
  obtain ⟨h1, h2, h3, h4, h5, h6, h7, h8, h9⟩ := h
  obtain ⟨l0, l1, l2, l3⟩ := h2 i (by omega) hi
  have hr := (bhd_r (f := f) (d := dir) l0 l1).resolve_left hb
  generalize hN : bhd f (li i) dir = N at *
  have hne : ∀ j, 0 ≤ j → j < cnt → li j ≠ N := fun j a b q => by
    have := (h2 j a b).2.2.1
    rw [q] at this; omega
  have hli : ∀ j, j < cnt → fu li cnt N j = li j := fun j b => by simp only [fu]; exact if_neg (by omega)
  have hlc : fu li cnt N cnt = N := by simp [fu]
  have hfl : ∀ j, 0 ≤ j → j < cnt → fu far N (far (li i) + 1) (li j) = far (li j) := fun j a b => by simp only [fu]; exact if_neg (hne j a b)
  have hfN : fu far N (far (li i) + 1) N = far (li i) + 1 := by simp [fu]
  have hfo : ∀ r, far r ≠ -1 → fu far N (far (li i) + 1) r = far r := fun r q => by
    simp only [fu]; exact if_neg (fun q2 => q (by rw [q2]; exact hf))
  refine ⟨by omega, fun j a b => ?_, fun r a b => ⟨?_, fun q => ?_⟩, ?_, fun j j' a b c => ?_, fun j a b c => ?_, fun j d a b c c2 c3 c4 => ?_, fun r a b c d => ?_, ?_⟩
  · by_cases q : j = cnt
    · subst q; rw [hlc, hfN]; omega
    · rw [hli j (by omega), hfl j a (by omega)]; exact h2 j a (by omega)
  · simp only [fu]
    split
    · omega
    · exact (h3 r a b).1
  · by_cases q2 : r = N
    · exact ⟨cnt, by omega, by omega, by rw [hlc, q2]⟩
    · simp only [fu, q2, if_false] at q
      obtain ⟨j, p0, p1, p2⟩ := (h3 r a b).2 q
      exact ⟨j, p0, by omega, by rw [hli j p1, p2]⟩
  · rw [hfo e (by omega)]; exact h4
  · by_cases q : j' = cnt
    · subst q
      rw [hlc, hfN]
      by_cases q2 : j = j'
      · subst q2; rw [hlc, hfN]; omega
      · rw [hli j (by omega), hfl j a (by omega)]
        exact h6 j a (by omega) hi
    · rw [hli j' (by omega), hfl j' (by omega) (by omega), hli j (by omega), hfl j a (by omega)]
      exact h5 j j' a b (by omega)
  · rw [hli i hi, hfl i (by omega) hi]
    by_cases q : j = cnt
    · subst q; rw [hlc, hfN]; omega
    · rw [hli j (by omega), hfl j a (by omega)]; exact h6 j a (by omega) hi
  · have hj : j < cnt := by omega
    rw [hli j hj] at c4 ⊢
    rw [hfl j a hj]
    by_cases q : j = i ∧ d = dir
    · obtain ⟨rfl, rfl⟩ := q
      rw [hN, hfN]; omega
    · obtain ⟨x1, x2⟩ := h7 j d a hj c c2 (by omega) c4
      rw [hfo _ x1]
      exact ⟨x1, x2⟩
  · by_cases q : r = N
    · subst q
      refine ⟨li i, dir, l0, l1, by omega, hd, ?_, hN, ?_⟩
      · rw [hfl i (by omega) hi]; omega
      · rw [hfN, hfl i (by omega) hi]
    · simp only [fu, q, if_false] at c
      obtain ⟨u, d', u0, u1, d0, d1, hu, hb2, hr2⟩ := h8 r a b c d
      exact ⟨u, d', u0, u1, d0, d1, by rw [hfo u hu]; exact hu, hb2, by rw [hfo u hu, hfo r c]; exact hr2⟩
  · rw [cfr_fu hf (by omega), h9, if_pos ⟨hr.1, by omega⟩]
/-- how many of the first n places hold 0 to k -/
def cle (f : Int → Int) (k : Int) : Nat → Int
  | 0 => 0
  | n + 1 => cle f k n + (if 0 ≤ f n ∧ f n ≤ k then 1 else 0)
theorem cle_le (f : Int → Int) (k : Int) : ∀ n, 0 ≤ cle f k n ∧ cle f k n ≤ n
  | 0 => by simp [cle]
  | n + 1 => by have := cle_le f k n; rw [cle]; split <;> omega
theorem cle_mono (f : Int → Int) (k : Int) : ∀ n, cle f k n ≤ cle f (k + 1) n
  | 0 => by simp [cle]
  | n + 1 => by
    have := cle_mono f k n
    rw [cle, cle]
    split
    · rw [if_pos (by omega)]; omega
    · split <;> omega
theorem cle_lt (f : Int → Int) (k : Int) (hk : 0 ≤ k + 1) : ∀ (n : Nat) (r : Int), 0 ≤ r → r < n → f r = k + 1 → cle f k n + 1 ≤ cle f (k + 1) n
  | 0, r, a, b, _ => by omega
  | n + 1, r, a, b, c => by
    rw [cle, cle]
    by_cases e : r = n
    · have := cle_mono f k n
      rw [← e, c, if_neg (by omega), if_pos (by omega)]
      omega
    · have := cle_lt f k hk n r a (by omega) c
      split
      · rw [if_pos (by omega)]; omega
      · split <;> omega
/-- each room but e was reached from another one -/
def PRk (f : Int → Int) (e : Int) (far : Int → Int) : Prop := ∀ r, 0 ≤ r → r < 16 → far r ≠ -1 → r ≠ e → ∃ u d, 0 ≤ u ∧ u < 16 ∧ 0 ≤ d ∧ d < 4 ∧ far u ≠ -1 ∧ bhd f u d = r ∧ far r = far u + 1
theorem PRk_cle {f far : Int → Int} {e : Int} (he : 0 ≤ e ∧ e < 16) (h0 : far e = 0) (hl : ∀ r, 0 ≤ r → r < 16 → -1 ≤ far r) (h : PRk f e far) : ∀ (k : Nat) (r : Int), 0 ≤ r → r < 16 → far r = k → (k : Int) + 1 ≤ cle far k 16
  | 0, r, r0, r1, hr => by
    have h1 := cle_lt far (-1) (by omega) 16 e he.1 (by omega) (by omega)
    have h2 := (cle_le far (-1) 16).1
    show (0 : Int) + 1 ≤ cle far 0 16
    have h3 : cle far (-1 + 1) 16 = cle far 0 16 := rfl
    omega
  | k + 1, r, r0, r1, hr => by
    have e1 : ((k + 1 : Nat) : Int) = (k : Int) + 1 := rfl
    rw [e1] at hr ⊢
    have hn : r ≠ e := fun q => by rw [q, h0] at hr; omega
    obtain ⟨u, d, u0, u1, d0, d1, hu, hb, h2⟩ := h r r0 r1 (by omega) hn
    have h3 := PRk_cle he h0 hl h k u u0 u1 (by omega)
    have h4 := cle_lt far k (by omega) 16 r r0 (by omega) hr
    omega
theorem PRk_15 {f far : Int → Int} {e : Int} (he : 0 ≤ e ∧ e < 16) (h0 : far e = 0) (hl : ∀ r, 0 ≤ r → r < 16 → -1 ≤ far r) (h : PRk f e far) {r : Int} (r0 : 0 ≤ r) (r1 : r < 16) : far r ≤ 15 := by
  by_cases q : far r = -1
  · omega
  · have := hl r r0 r1
    have h1 := PRk_cle he h0 hl h (far r).toNat r r0 r1 (by omega)
    have h2 := (cle_le far (far r).toNat 16).2
    omega
/-- the search under way: layer t, before room p, of that before direction d -/
def LYI (f : Int → Int) (e : Int) (far : Int → Int) (t p d : Int) : Prop :=
  (0 ≤ e ∧ e < 16) ∧ far e = 0 ∧ (∀ r, 0 ≤ r → r < 16 → -1 ≤ far r ∧ far r ≤ t + 1) ∧
  (∀ r i, 0 ≤ r → r < 16 → 0 ≤ i → i < 4 → far r ≠ -1 → (far r < t ∨ (far r = t ∧ (r < p ∨ (r = p ∧ i < d)))) → bhd f r i ≠ -1 → far (bhd f r i) ≠ -1 ∧ far (bhd f r i) ≤ far r + 1) ∧ PRk f e far
theorem LY_0 {f far : Int → Int} {e : Int} (he : 0 ≤ e ∧ e < 16) (hf : ∀ r, 0 ≤ r → r < 16 → far r = if r = e then 0 else -1) : LYI f e far 0 0 0 ∧ ∀ r, 0 ≤ r → r < 16 → far r ≤ 0 := by
  have fe : far e = 0 := by rw [hf e he.1 he.2, if_pos rfl]
  refine ⟨⟨he, fe, fun r a b => by rw [hf r a b]; split <;> omega, fun r i a b c c2 h1 h2 h3 => ?_, fun r a b h1 h2 => ?_⟩, fun r a b => by rw [hf r a b]; split <;> omega⟩
  · rw [hf r a b] at h1 h2
    by_cases q : r = e
    · rw [if_pos q] at h2; omega
    · rw [if_neg q] at h1; exact absurd rfl h1
  · rw [hf r a b, if_neg h2] at h1; exact absurd rfl h1
theorem LY_skip {f far : Int → Int} {e t p d : Int} (h : LYI f e far t p d) (p0 : 0 ≤ p) (p1 : p < 16) (hp : far p = t) (hs : bhd f p d = -1 ∨ far (bhd f p d) ≠ -1) : LYI f e far t p (d + 1) := by
  obtain ⟨h1, h2, h3, h4, h5⟩ := h
  refine ⟨h1, h2, h3, fun r i a b c c2 q1 q2 q3 => ?_, h5⟩
  by_cases q : r = p ∧ i = d
  · obtain ⟨rfl, rfl⟩ := q
    have hf := hs.resolve_left q3
    have hr := (bhd_r (f := f) (d := i) a b).resolve_left q3
    exact ⟨hf, by rw [hp]; exact (h3 _ hr.1 hr.2).2⟩
  · exact h4 r i a b c c2 q1 (by omega) q3
theorem LY_room {f far : Int → Int} {e t p d : Int} (h : LYI f e far t p d) (hd : far p ≠ t ∨ 4 ≤ d) : LYI f e far t (p + 1) 0 := by
  obtain ⟨h1, h2, h3, h4, h5⟩ := h
  refine ⟨h1, h2, h3, fun r i a b c c2 q1 q2 q3 => h4 r i a b c c2 q1 ?_ q3, h5⟩
  by_cases q : r = p
  · subst q; omega
  · omega
theorem LY_layer {f far : Int → Int} {e t : Int} (h : LYI f e far t 16 0) : LYI f e far (t + 1) 0 0 ∧ ∀ r, 0 ≤ r → r < 16 → far r ≤ t + 1 := by
  obtain ⟨h1, h2, h3, h4, h5⟩ := h
  exact ⟨⟨h1, h2, fun r a b => ⟨(h3 r a b).1, by have := (h3 r a b).2; omega⟩, fun r i a b c c2 q1 q2 q3 => h4 r i a b c c2 q1 (by omega) q3, h5⟩, fun r a b => (h3 r a b).2⟩
theorem LY_end {f far : Int → Int} {e t : Int} (h : LYI f e far t 0 0) (ht : 16 ≤ t) : WD f e far := by
  obtain ⟨h1, h2, h3, h4, h5⟩ := h
  have m : ∀ r, 0 ≤ r → r < 16 → far r ≤ 15 := fun r a b => PRk_15 h1 h2 (fun r a b => (h3 r a b).1) h5 a b
  exact ⟨h2, fun r a b => ⟨(h3 r a b).1, m r a b⟩, fun r i a b c c2 q1 q3 => h4 r i a b c c2 q1 (by have := m r a b; omega) q3, h5⟩
theorem LY_add {f far : Int → Int} {e t p d : Int} (h : LYI f e far t p d) (t0 : 0 ≤ t) (p0 : 0 ≤ p) (p1 : p < 16) (d0 : 0 ≤ d) (d1 : d < 4) (hp : far p = t) (hb : bhd f p d ≠ -1) (hN : far (bhd f p d) = -1) : LYI f e (fu far (bhd f p d) (t + 1)) t p (d + 1) := by
  obtain ⟨h1, h2, h3, h4, h5⟩ := h
  have hr := (bhd_r (f := f) (d := d) p0 p1).resolve_left hb
  generalize hE : bhd f p d = N at *
  have fN : fu far N (t + 1) N = t + 1 := by simp [fu]
  have fo : ∀ r, r ≠ N → fu far N (t + 1) r = far r := fun r q => by simp only [fu]; exact if_neg q
  have fo2 : ∀ r, far r ≠ -1 → fu far N (t + 1) r = far r := fun r q => fo r (fun q2 => q (by rw [q2]; exact hN))
  refine ⟨h1, by rw [fo2 e (by omega)]; exact h2, fun r a b => ?_, fun r i a b c c2 q1 q2 q3 => ?_, fun r a b q1 q2 => ?_⟩
  · by_cases q : r = N
    · rw [q, fN]; omega
    · rw [fo r q]; exact h3 r a b
  · by_cases q : r = N
    · rw [q, fN] at q2; omega
    · rw [fo r q] at q1 q2 ⊢
      by_cases q4 : bhd f r i = N
      · rw [q4, fN]
        by_cases q5 : far r < t
        · have := (h4 r i a b c c2 q1 (Or.inl q5) q3).1
          rw [q4] at this
          exact absurd hN this
        · omega
      · rw [fo _ q4]
        refine h4 r i a b c c2 q1 ?_ q3
        by_cases q5 : r = p ∧ i = d
        · rw [q5.1, q5.2] at q4; exact absurd hE q4
        · omega
  · by_cases q : r = N
    · subst q
      exact ⟨p, d, p0, p1, d0, d1, by rw [fo2 p (by omega)]; omega, hE, by rw [fN, fo2 p (by omega), hp]⟩
    · rw [fo r q] at q1 ⊢
      obtain ⟨u, i, u0, u1, i0, i1, hu, hb2, hr2⟩ := h5 r a b q1 q2
      exact ⟨u, i, u0, u1, i0, i1, by rw [fo2 u hu]; exact hu, hb2, by rw [fo2 u hu]; exact hr2⟩
/-- the first i places: v at e, w elsewhere -/
def ini (e v w i : Int) (f : Int → Int) : Int → Int := fun j => if 0 ≤ j ∧ j < i then (if j = e then v else w) else f j
theorem ini_0 {e v w : Int} {f : Int → Int} : ini e v w 0 f = f := by funext j; exact if_neg (by omega)
theorem ini_s {e v w i z : Int} {f : Int → Int} (i0 : 0 ≤ i) (hz : z = if i = e then v else w) : fu (ini e v w i f) i z = ini e v w (i + 1) f := by
  funext j
  simp only [fu, ini]
  by_cases q : j = i
  · rw [if_pos q, if_pos (show 0 ≤ j ∧ j < i + 1 by omega), hz, q]
  · rw [if_neg q]
    by_cases q2 : 0 ≤ j ∧ j < i
    · rw [if_pos q2, if_pos (show 0 ≤ j ∧ j < i + 1 by omega)]
    · rw [if_neg q2, if_neg (show ¬ (0 ≤ j ∧ j < i + 1) by omega)]
theorem ini_16 {e v w : Int} {f : Int → Int} {r : Int} (r0 : 0 ≤ r) (r1 : r < 16) : ini e v w 16 f r = if r = e then v else w := if_pos ⟨r0, r1⟩
def spX3_measureBySearch : ac_Sp := sc_R (fun a h => FLk h a) (fun a h v h' => v = none ∧ ∃ far, WD (h 10 (h 402 a 0)) (h 400 a 0) far ∧ ag h' (ast h (h 405 a 0) far)) (fun _ _ _ _ => False)
def ivX3_measureBySearch (a : Int) (h : ac_H) : Nat → Nat → ac_S := fun j m => match j with
  | 0 => fun L S g k n => m = 50000 ∧ ent0 [some (.inr (.inl a)), none, none, none, none] h L S g k n
  | 1 => fun L S g k n => ∃ (i : Int) (o2 o3 o4 : Option ac_V), 0 ≤ i ∧ i ≤ 16 ∧ (m : Int) = 40016 - i ∧ L = [some (.inr (.inl a)), some (.inl i), o2, o3, o4] ∧ S = [] ∧ g = ast h (h 405 a 0) (ini (h 400 a 0) 0 (-1) i (h 10 (h 405 a 0))) ∧ k = 0 ∧ n = 0
  | 2 => fun L S g k n => ∃ (t : Int) (far : Int → Int) (o2 o3 o4 : Option ac_V), 0 ≤ t ∧ t ≤ 16 ∧ (m : Int) = (16 - t) * 2000 ∧ LYI (h 10 (h 402 a 0)) (h 400 a 0) far t 0 0 ∧ L = [some (.inr (.inl a)), some (.inl t), o2, o3, o4] ∧ S = [] ∧ g = ast h (h 405 a 0) far ∧ k = 0 ∧ n = 0
  | 3 => fun L S g k n => ∃ (t p : Int) (far : Int → Int) (o3 o4 : Option ac_V), 0 ≤ t ∧ t < 16 ∧ 0 ≤ p ∧ p ≤ 16 ∧ (m : Int) = (16 - t) * 2000 - 1 - p * 100 ∧ LYI (h 10 (h 402 a 0)) (h 400 a 0) far t p 0 ∧ L = [some (.inr (.inl a)), some (.inl t), some (.inl p), o3, o4] ∧ S = [] ∧ g = ast h (h 405 a 0) far ∧ k = 0 ∧ n = 0
  | 4 => fun L S g k n => ∃ (t p d : Int) (far : Int → Int) (o4 : Option ac_V), 0 ≤ t ∧ t < 16 ∧ 0 ≤ p ∧ p < 16 ∧ 0 ≤ d ∧ d ≤ 4 ∧ (m : Int) = (16 - t) * 2000 - 2 - p * 100 - d ∧ LYI (h 10 (h 402 a 0)) (h 400 a 0) far t p d ∧ L = [some (.inr (.inl a)), some (.inl t), some (.inl p), some (.inl d), o4] ∧ S = [] ∧ g = ast h (h 405 a 0) far ∧ k = 0 ∧ n = 0
  | _ => fun _ _ _ _ _ => False
set_option maxRecDepth 100000 in
set_option maxHeartbeats 4000000 in
theorem mtX3_measureBySearch {G : ac_G} {l : Launch} : ac_Met G l yX3_measureBySearch mX3_measureBySearch 2 45 0 0 spX3_measureBySearch := by
  refine ac_meth (pcs := pcX3_measureBySearch) (B := fun P X J j => vcX3_measureBySearch spX3_behindDoor spX8_isRoom P X J j) (by decide) rfl rfl rfl (fun P X J hJ j => sdX3_measureBySearch mtX3_behindDoor mtX8_isRoom P X J hJ j) (hp_R (by decide)) fun As h hp => ?_
  obtain ⟨a, rfl, hp⟩ := sh_R_inv hp
  have hf := hp
  obtain ⟨f1, f2, f3, f4, f5, f6, f7, f8, f9, f10, f11, f12, f13, f14, f15, f16, f17⟩ := hp
  refine ⟨ivX3_measureBySearch a h, 50000, ⟨rfl, rfl, rfl, rfl, rfl, rfl⟩, fun j m L S g k n hI => ?_⟩
  match j, hI with
  | 0, hI =>
    obtain ⟨hm, rfl, rfl, rfl, rfl, rfl⟩ := hI
    simp only [spX3_measureBySearch, vcX3_measureBySearch, mX3_measureBySearch, spX3_behindDoor, spX8_isRoom, ac_ent, ldI, ldR, stI, stR, inc, cI, cJ, cN, bop, oAdd, oSub, oMul, oAnd, oOr, oXor, oShl, oShr, oUshr, oRem, oDiv, oMx, oMn, oI2l, oLcmp, oDup, oDup2, oDupX1, oPop, bIc, bI0, bNul, getI, getR, putI, putZ, putR, aLen, aldI, aldZ, aldJ, aldR, astI, astZ, astJ, astR, nwO, nwA, gsT, oObj, oCpy, oCln, oCst, rtI, rtZ, rtR, rtV, thr, call, callH, ac_hsel, ac_as, ac_rs, ac_cs, ac_rcv, List.map_cons, List.map_nil, List.length_cons, List.length_nil, List.replicate, List.append_nil, List.cons_append, List.nil_append, List.getElem?_cons_zero, List.getElem?_cons_succ, List.set, Nat.zero_add, Nat.add_zero, Nat.le_refl, Nat.reduceAdd, Nat.reduceSub, Nat.reduceLeDiff, Int.reduceLT, Int.reduceLE, Int.reduceNeg, Int.reduceEq, true_and, and_true, true_or, or_true, not_true_eq_false, not_false_eq_true, false_implies, true_implies, implies_true, reduceIte, and_self, Int.reduceAdd, Int.reduceMul, Int.reduceSub, eq_self, Int.add_zero, Int.zero_add, String.reduceEq, Nat.zero_le, Option.some.injEq, Sum.inl.injEq, Sum.inr.injEq, reduceCtorEq, Int.reduceToNat, Option.toList_some, Option.toList_none, ac_cs, ac_c10, ac_c11, ac_c12, ac_c13, ac_c14, ac_c15, ac_c16, ac_c17, sc_E, sh_E, sc_I, sh_I, sc_II, sh_II, sc_III, sh_III, sc_R, sh_R, sc_RI, sh_RI, sc_RII, sh_RII, sc_RIII, sh_RIII, sc_RIIII, sh_RIIII, sc_RR, sh_RR, sc_RRI, sh_RRI, sc_RRR, sh_RRR, sc_RIR, sh_RIR, sc_RIRI, sh_RIRI, sc_RRII, sh_RRII, sc_RRIII, sh_RRIII, sc_RIIRR, sh_RIIRR, sc_RIIIRR, sh_RIIIRR, sc_RIIR, sh_RIIR, sc_RRIIR, sh_RRIIR, sc_RRIIIR, sh_RRIIIR, sc_RRIIIIR, sh_RRIIIIR, sc_RRIR, sh_RRIR]
    exact ⟨40016, by omega, 0, none, none, none, by omega, by omega, by omega, rfl, rfl, by rw [ini_0, ast_self], rfl, rfl⟩
  | 1, hI =>
    obtain ⟨i, o2, o3, o4, i0, i1, hm, rfl, rfl, rfl, rfl, rfl⟩ := hI
    simp only [spX3_measureBySearch, vcX3_measureBySearch, mX3_measureBySearch, spX3_behindDoor, spX8_isRoom, ac_ent, ldI, ldR, stI, stR, inc, cI, cJ, cN, bop, oAdd, oSub, oMul, oAnd, oOr, oXor, oShl, oShr, oUshr, oRem, oDiv, oMx, oMn, oI2l, oLcmp, oDup, oDup2, oDupX1, oPop, bIc, bI0, bNul, getI, getR, putI, putZ, putR, aLen, aldI, aldZ, aldJ, aldR, astI, astZ, astJ, astR, nwO, nwA, gsT, oObj, oCpy, oCln, oCst, rtI, rtZ, rtR, rtV, thr, call, callH, ac_hsel, ac_as, ac_rs, ac_cs, ac_rcv, List.map_cons, List.map_nil, List.length_cons, List.length_nil, List.replicate, List.append_nil, List.cons_append, List.nil_append, List.getElem?_cons_zero, List.getElem?_cons_succ, List.set, Nat.zero_add, Nat.add_zero, Nat.le_refl, Nat.reduceAdd, Nat.reduceSub, Nat.reduceLeDiff, Int.reduceLT, Int.reduceLE, Int.reduceNeg, Int.reduceEq, true_and, and_true, true_or, or_true, not_true_eq_false, not_false_eq_true, false_implies, true_implies, implies_true, reduceIte, and_self, Int.reduceAdd, Int.reduceMul, Int.reduceSub, eq_self, Int.add_zero, Int.zero_add, String.reduceEq, Nat.zero_le, Option.some.injEq, Sum.inl.injEq, Sum.inr.injEq, reduceCtorEq, Int.reduceToNat, Option.toList_some, Option.toList_none, ac_cs, ac_c10, ac_c11, ac_c12, ac_c13, ac_c14, ac_c15, ac_c16, ac_c17, sc_E, sh_E, sc_I, sh_I, sc_II, sh_II, sc_III, sh_III, sc_R, sh_R, sc_RI, sh_RI, sc_RII, sh_RII, sc_RIII, sh_RIII, sc_RIIII, sh_RIIII, sc_RR, sh_RR, sc_RRI, sh_RRI, sc_RRR, sh_RRR, sc_RIR, sh_RIR, sc_RIRI, sh_RIRI, sc_RRII, sh_RRII, sc_RRIII, sh_RRIII, sc_RIIRR, sh_RIIRR, sc_RIIIRR, sh_RIIIRR, sc_RIIR, sh_RIIR, sc_RRIIR, sh_RRIIR, sc_RRIIIR, sh_RRIIIR, sc_RRIIIIR, sh_RRIIIIR, sc_RRIR, sh_RRIR, up_k, ast_k, up_kf, ast_kf, ne_eq, Nat.reduceEqDiff, not_false_eq_true, f1, f8, f9]
    refine ⟨fun q => ?_, fun q => ⟨fun e => ⟨⟨i0, by omega⟩, ?_⟩, fun e => ⟨⟨i0, by omega⟩, ?_⟩⟩⟩
    · have h16 : i = 16 := by omega
      subst h16
      have b := LY_0 (f := h 10 (h 402 a 0)) (far := ini (h 400 a 0) 0 (-1) 16 (h 10 (h 405 a 0))) ⟨f2, f3⟩ (fun r r0 r1 => ini_16 r0 r1)
      exact ⟨32000, by omega, 0, _, o2, o3, o4, by omega, by omega, by omega, b.1, rfl, rfl, rfl, rfl, rfl⟩
    · simp (disch := omega) only [wr_of]
      exact ⟨(40016 - (i + 1)).toNat, by omega, i + 1, o2, o3, o4, by omega, by omega, by omega, rfl, rfl, by rw [up_ast, ini_s i0 (by rw [if_pos e])], rfl, rfl⟩
    · simp (disch := omega) only [wr_of]
      exact ⟨(40016 - (i + 1)).toNat, by omega, i + 1, o2, o3, o4, by omega, by omega, by omega, rfl, rfl, by rw [up_ast, ini_s i0 (by rw [if_neg e])], rfl, rfl⟩
  | 2, hI =>
    obtain ⟨t, far, o2, o3, o4, t0, t1, hm, hL, rfl, rfl, rfl, rfl, rfl⟩ := hI
    simp only [spX3_measureBySearch, vcX3_measureBySearch, mX3_measureBySearch, spX3_behindDoor, spX8_isRoom, ac_ent, ldI, ldR, stI, stR, inc, cI, cJ, cN, bop, oAdd, oSub, oMul, oAnd, oOr, oXor, oShl, oShr, oUshr, oRem, oDiv, oMx, oMn, oI2l, oLcmp, oDup, oDup2, oDupX1, oPop, bIc, bI0, bNul, getI, getR, putI, putZ, putR, aLen, aldI, aldZ, aldJ, aldR, astI, astZ, astJ, astR, nwO, nwA, gsT, oObj, oCpy, oCln, oCst, rtI, rtZ, rtR, rtV, thr, call, callH, ac_hsel, ac_as, ac_rs, ac_cs, ac_rcv, List.map_cons, List.map_nil, List.length_cons, List.length_nil, List.replicate, List.append_nil, List.cons_append, List.nil_append, List.getElem?_cons_zero, List.getElem?_cons_succ, List.set, Nat.zero_add, Nat.add_zero, Nat.le_refl, Nat.reduceAdd, Nat.reduceSub, Nat.reduceLeDiff, Int.reduceLT, Int.reduceLE, Int.reduceNeg, Int.reduceEq, true_and, and_true, true_or, or_true, not_true_eq_false, not_false_eq_true, false_implies, true_implies, implies_true, reduceIte, and_self, Int.reduceAdd, Int.reduceMul, Int.reduceSub, eq_self, Int.add_zero, Int.zero_add, String.reduceEq, Nat.zero_le, Option.some.injEq, Sum.inl.injEq, Sum.inr.injEq, reduceCtorEq, Int.reduceToNat, Option.toList_some, Option.toList_none, ac_cs, ac_c10, ac_c11, ac_c12, ac_c13, ac_c14, ac_c15, ac_c16, ac_c17, sc_E, sh_E, sc_I, sh_I, sc_II, sh_II, sc_III, sh_III, sc_R, sh_R, sc_RI, sh_RI, sc_RII, sh_RII, sc_RIII, sh_RIII, sc_RIIII, sh_RIIII, sc_RR, sh_RR, sc_RRI, sh_RRI, sc_RRR, sh_RRR, sc_RIR, sh_RIR, sc_RIRI, sh_RIRI, sc_RRII, sh_RRII, sc_RRIII, sh_RRIII, sc_RIIRR, sh_RIIRR, sc_RIIIRR, sh_RIIIRR, sc_RIIR, sh_RIIR, sc_RRIIR, sh_RRIIR, sc_RRIIIR, sh_RRIIIR, sc_RRIIIIR, sh_RRIIIIR, sc_RRIR, sh_RRIR]
    refine ⟨fun q => ⟨far, LY_end hL (by omega), ag_rf _⟩, fun q => ?_⟩
    exact ⟨((16 - t) * 2000 - 1).toNat, by omega, t, 0, far, o3, o4, t0, by omega, by omega, by omega, by omega, hL, rfl, rfl, rfl, rfl, rfl⟩
  | 3, hI =>
    obtain ⟨t, p, far, o3, o4, t0, t1, p0, p1, hm, hL, rfl, rfl, rfl, rfl, rfl⟩ := hI
    simp only [spX3_measureBySearch, vcX3_measureBySearch, mX3_measureBySearch, spX3_behindDoor, spX8_isRoom, ac_ent, ldI, ldR, stI, stR, inc, cI, cJ, cN, bop, oAdd, oSub, oMul, oAnd, oOr, oXor, oShl, oShr, oUshr, oRem, oDiv, oMx, oMn, oI2l, oLcmp, oDup, oDup2, oDupX1, oPop, bIc, bI0, bNul, getI, getR, putI, putZ, putR, aLen, aldI, aldZ, aldJ, aldR, astI, astZ, astJ, astR, nwO, nwA, gsT, oObj, oCpy, oCln, oCst, rtI, rtZ, rtR, rtV, thr, call, callH, ac_hsel, ac_as, ac_rs, ac_cs, ac_rcv, List.map_cons, List.map_nil, List.length_cons, List.length_nil, List.replicate, List.append_nil, List.cons_append, List.nil_append, List.getElem?_cons_zero, List.getElem?_cons_succ, List.set, Nat.zero_add, Nat.add_zero, Nat.le_refl, Nat.reduceAdd, Nat.reduceSub, Nat.reduceLeDiff, Int.reduceLT, Int.reduceLE, Int.reduceNeg, Int.reduceEq, true_and, and_true, true_or, or_true, not_true_eq_false, not_false_eq_true, false_implies, true_implies, implies_true, reduceIte, and_self, Int.reduceAdd, Int.reduceMul, Int.reduceSub, eq_self, Int.add_zero, Int.zero_add, String.reduceEq, Nat.zero_le, Option.some.injEq, Sum.inl.injEq, Sum.inr.injEq, reduceCtorEq, Int.reduceToNat, Option.toList_some, Option.toList_none, ac_cs, ac_c10, ac_c11, ac_c12, ac_c13, ac_c14, ac_c15, ac_c16, ac_c17, sc_E, sh_E, sc_I, sh_I, sc_II, sh_II, sc_III, sh_III, sc_R, sh_R, sc_RI, sh_RI, sc_RII, sh_RII, sc_RIII, sh_RIII, sc_RIIII, sh_RIIII, sc_RR, sh_RR, sc_RRI, sh_RRI, sc_RRR, sh_RRR, sc_RIR, sh_RIR, sc_RIRI, sh_RIRI, sc_RRII, sh_RRII, sc_RRIII, sh_RRIII, sc_RIIRR, sh_RIIRR, sc_RIIIRR, sh_RIIIRR, sc_RIIR, sh_RIIR, sc_RRIIR, sh_RRIIR, sc_RRIIIR, sh_RRIIIR, sc_RRIIIIR, sh_RRIIIIR, sc_RRIR, sh_RRIR]
    refine ⟨fun q => ?_, fun q => ?_⟩
    · have h16 : p = 16 := by omega
      subst h16
      simp (disch := omega) only [wr_of]
      exact ⟨((16 - (t + 1)) * 2000).toNat, by omega, t + 1, far, _, o3, o4, by omega, by omega, by omega, (LY_layer hL).1, rfl, rfl, rfl, rfl, rfl⟩
    · exact ⟨((16 - t) * 2000 - 2 - p * 100).toNat, by omega, t, p, 0, far, o4, t0, t1, p0, by omega, by omega, by omega, by omega, hL, rfl, rfl, rfl, rfl, rfl⟩
  | 4, hI =>
    obtain ⟨t, p, d, far, o4, t0, t1, p0, p1, d0, d1, hm, hL, rfl, rfl, rfl, rfl, rfl⟩ := hI
    have p16 : p < 16 := p1
    simp only [spX3_measureBySearch, vcX3_measureBySearch, mX3_measureBySearch, spX3_behindDoor, spX8_isRoom, ac_ent, ldI, ldR, stI, stR, inc, cI, cJ, cN, bop, oAdd, oSub, oMul, oAnd, oOr, oXor, oShl, oShr, oUshr, oRem, oDiv, oMx, oMn, oI2l, oLcmp, oDup, oDup2, oDupX1, oPop, bIc, bI0, bNul, getI, getR, putI, putZ, putR, aLen, aldI, aldZ, aldJ, aldR, astI, astZ, astJ, astR, nwO, nwA, gsT, oObj, oCpy, oCln, oCst, rtI, rtZ, rtR, rtV, thr, call, callH, ac_hsel, ac_as, ac_rs, ac_cs, ac_rcv, List.map_cons, List.map_nil, List.length_cons, List.length_nil, List.replicate, List.append_nil, List.cons_append, List.nil_append, List.getElem?_cons_zero, List.getElem?_cons_succ, List.set, Nat.zero_add, Nat.add_zero, Nat.le_refl, Nat.reduceAdd, Nat.reduceSub, Nat.reduceLeDiff, Int.reduceLT, Int.reduceLE, Int.reduceNeg, Int.reduceEq, true_and, and_true, true_or, or_true, not_true_eq_false, not_false_eq_true, false_implies, true_implies, implies_true, reduceIte, and_self, Int.reduceAdd, Int.reduceMul, Int.reduceSub, eq_self, Int.add_zero, Int.zero_add, String.reduceEq, Nat.zero_le, Option.some.injEq, Sum.inl.injEq, Sum.inr.injEq, reduceCtorEq, Int.reduceToNat, Option.toList_some, Option.toList_none, ac_cs, ac_c10, ac_c11, ac_c12, ac_c13, ac_c14, ac_c15, ac_c16, ac_c17, sc_E, sh_E, sc_I, sh_I, sc_II, sh_II, sc_III, sh_III, sc_R, sh_R, sc_RI, sh_RI, sc_RII, sh_RII, sc_RIII, sh_RIII, sc_RIIII, sh_RIIII, sc_RR, sh_RR, sc_RRI, sh_RRI, sc_RRR, sh_RRR, sc_RIR, sh_RIR, sc_RIRI, sh_RIRI, sc_RRII, sh_RRII, sc_RRIII, sh_RRIII, sc_RIIRR, sh_RIIRR, sc_RIIIRR, sh_RIIIRR, sc_RIIR, sh_RIIR, sc_RRIIR, sh_RRIIR, sc_RRIIIR, sh_RRIIIR, sc_RRIIIIR, sh_RRIIIIR, sc_RRIR, sh_RRIR, up_k, ast_k, up_kf, ast_kf, ne_eq, Nat.reduceEqDiff, not_false_eq_true, f1, f4, f5, f8, f9, ast_10', ast_af f13, p0, p16]
    have rm : ∀ x, (far p ≠ t ∨ 4 ≤ d) → ∃ m', m' < m ∧ ivX3_measureBySearch a h 3 m' [some (.inr (.inl a)), some (.inl t), some (.inl (wr (p + 1))), some (.inl d), x] [] (ast h (h 405 a 0) far) 0 0 := fun x q =>
      ⟨((16 - t) * 2000 - 1 - (p + 1) * 100).toNat, by omega, t, p + 1, far, some (.inl d), x, t0, t1, by omega, by omega, by omega, LY_room hL q, by simp (disch := omega) only [wr_of], rfl, rfl, rfl, rfl⟩
    refine ⟨fun e => ⟨fun q => rm _ (Or.inr q), fun q => ?_⟩, fun e => rm _ (Or.inl e)⟩
    rintro v h' ⟨rfl, rfl⟩
    simp only [ac_ent, ldI, ldR, stI, stR, inc, cI, cJ, cN, bop, oAdd, oSub, oMul, oAnd, oOr, oXor, oShl, oShr, oUshr, oRem, oDiv, oMx, oMn, oI2l, oLcmp, oDup, oDup2, oDupX1, oPop, bIc, bI0, bNul, getI, getR, putI, putZ, putR, aLen, aldI, aldZ, aldJ, aldR, astI, astZ, astJ, astR, nwO, nwA, gsT, oObj, oCpy, oCln, oCst, rtI, rtZ, rtR, rtV, thr, call, callH, ac_hsel, ac_as, ac_rs, ac_cs, ac_rcv, List.map_cons, List.map_nil, List.length_cons, List.length_nil, List.replicate, List.append_nil, List.cons_append, List.nil_append, List.getElem?_cons_zero, List.getElem?_cons_succ, List.set, Nat.zero_add, Nat.add_zero, Nat.le_refl, Nat.reduceAdd, Nat.reduceSub, Nat.reduceLeDiff, Int.reduceLT, Int.reduceLE, Int.reduceNeg, Int.reduceEq, true_and, and_true, true_or, or_true, not_true_eq_false, not_false_eq_true, false_implies, true_implies, implies_true, reduceIte, and_self, Int.reduceAdd, Int.reduceMul, Int.reduceSub, eq_self, Int.add_zero, Int.zero_add, String.reduceEq, Nat.zero_le, Option.some.injEq, Sum.inl.injEq, Sum.inr.injEq, reduceCtorEq, Int.reduceToNat, Option.toList_some, Option.toList_none, ac_cs, ac_c10, ac_c11, ac_c12, ac_c13, ac_c14, ac_c15, ac_c16, ac_c17, sc_E, sh_E, sc_I, sh_I, sc_II, sh_II, sc_III, sh_III, sc_R, sh_R, sc_RI, sh_RI, sc_RII, sh_RII, sc_RIII, sh_RIII, sc_RIIII, sh_RIIII, sc_RR, sh_RR, sc_RRI, sh_RRI, sc_RRR, sh_RRR, sc_RIR, sh_RIR, sc_RIRI, sh_RIRI, sc_RRII, sh_RRII, sc_RRIII, sh_RRIII, sc_RIIRR, sh_RIIRR, sc_RIIIRR, sh_RIIIRR, sc_RIIR, sh_RIIR, sc_RRIIR, sh_RRIIR, sc_RRIIIR, sh_RRIIIR, sc_RRIIIIR, sh_RRIIIIR, sc_RRIR, sh_RRIR]
    rintro v g ⟨rfl, rfl⟩
    simp only [up_k, ast_k, up_kf, ast_kf, ne_eq, Nat.reduceEqDiff, not_false_eq_true, f1, f8, f9, ast_10', ac_ent, ldI, ldR, stI, stR, inc, cI, cJ, cN, bop, oAdd, oSub, oMul, oAnd, oOr, oXor, oShl, oShr, oUshr, oRem, oDiv, oMx, oMn, oI2l, oLcmp, oDup, oDup2, oDupX1, oPop, bIc, bI0, bNul, getI, getR, putI, putZ, putR, aLen, aldI, aldZ, aldJ, aldR, astI, astZ, astJ, astR, nwO, nwA, gsT, oObj, oCpy, oCln, oCst, rtI, rtZ, rtR, rtV, thr, call, callH, ac_hsel, ac_as, ac_rs, ac_cs, ac_rcv, List.map_cons, List.map_nil, List.length_cons, List.length_nil, List.replicate, List.append_nil, List.cons_append, List.nil_append, List.getElem?_cons_zero, List.getElem?_cons_succ, List.set, Nat.zero_add, Nat.add_zero, Nat.le_refl, Nat.reduceAdd, Nat.reduceSub, Nat.reduceLeDiff, Int.reduceLT, Int.reduceLE, Int.reduceNeg, Int.reduceEq, true_and, and_true, true_or, or_true, not_true_eq_false, not_false_eq_true, false_implies, true_implies, implies_true, reduceIte, and_self, Int.reduceAdd, Int.reduceMul, Int.reduceSub, eq_self, Int.add_zero, Int.zero_add, String.reduceEq, Nat.zero_le, Option.some.injEq, Sum.inl.injEq, Sum.inr.injEq, reduceCtorEq, Int.reduceToNat, Option.toList_some, Option.toList_none, ac_cs, ac_c10, ac_c11, ac_c12, ac_c13, ac_c14, ac_c15, ac_c16, ac_c17, sc_E, sh_E, sc_I, sh_I, sc_II, sh_II, sc_III, sh_III, sc_R, sh_R, sc_RI, sh_RI, sc_RII, sh_RII, sc_RIII, sh_RIII, sc_RIIII, sh_RIIII, sc_RR, sh_RR, sc_RRI, sh_RRI, sc_RRR, sh_RRR, sc_RIR, sh_RIR, sc_RIRI, sh_RIRI, sc_RRII, sh_RRII, sc_RRIII, sh_RRIII, sc_RIIRR, sh_RIIRR, sc_RIIIRR, sh_RIIIRR, sc_RIIR, sh_RIIR, sc_RRIIR, sh_RRIIR, sc_RRIIIR, sh_RRIIIR, sc_RRIIIIR, sh_RRIIIIR, sc_RRIR, sh_RRIR]
    have skp : (bhd (h 10 (h 402 a 0)) p d = -1 ∨ far (bhd (h 10 (h 402 a 0)) p d) ≠ -1) → ∀ x, ∃ m', m' < m ∧ ivX3_measureBySearch a h 4 m' [some (.inr (.inl a)), some (.inl t), some (.inl p), some (.inl (wr (d + 1))), x] [] (ast h (h 405 a 0) far) 0 0 := fun q2 x =>
      ⟨((16 - t) * 2000 - 2 - p * 100 - (d + 1)).toNat, by omega, t, p, d + 1, far, x, t0, t1, p0, p1, by omega, by omega, by omega, LY_skip hL p0 p1 e q2, by simp (disch := omega) only [wr_of], rfl, rfl, rfl, rfl⟩
    rcases bhd_r (f := h 10 (h 402 a 0)) (d := d) p0 p1 with e2 | e2
    · exact ⟨fun _ => skp (Or.inl e2) _, fun q2 => absurd (show rm1 (bhd (h 10 (h 402 a 0)) p d) = 0 by rw [e2]; decide) q2⟩
    · refine ⟨fun q2 => absurd (q2.symm.trans (rm_y e2.1 e2.2)) (by decide), fun _ => ⟨e2, fun q3 => ⟨e2, ?_⟩, fun q3 => skp (Or.inr q3) _⟩⟩
      rw [up_ast]
      simp (disch := omega) only [wr_of]
      exact ⟨((16 - t) * 2000 - 2 - p * 100 - (d + 1)).toNat, by omega, t, p, d + 1, _, _, t0, t1, p0, p1, by omega, by omega, by omega, LY_add hL t0 p0 p1 d0 (by omega) e (by omega) q3, rfl, rfl, rfl, rfl, rfl⟩
  | j + 5, hI => exact hI.elim
