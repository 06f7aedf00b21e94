/-! ===== how far the rooms are: the search, the rounds by doors ===== -/
def cfr (f : Int → Int) : Nat → Int
  | 0 => 0
  | n + 1 => cfr f n + (if f n = -1 then 0 else 1)
theorem cfr_le (f : Int → Int) : ∀ n, 0 ≤ cfr f n ∧ cfr f n ≤ n
  | 0 => by simp [cfr]
  | n + 1 => by have := cfr_le f n; rw [cfr]; split <;> omega
theorem cfr_fu {f : Int → Int} {r v : Int} (hr : f r = -1) (hv : v ≠ -1) : ∀ n : Nat, cfr (fu f r v) n = cfr f n + (if 0 ≤ r ∧ r < n then 1 else 0)
  | 0 => by
    rw [cfr, cfr, if_neg (by omega)]; rfl
  | n + 1 => by
    rw [cfr, cfr, cfr_fu hr hv n]
    by_cases e : (n : Int) = r
    · subst e
      rw [if_neg (by omega), if_pos (show 0 ≤ (n : Int) ∧ (n : Int) < ((n + 1 : Nat) : Int) by omega), show fu f (n : Int) v n = v by simp [fu], if_neg hv, hr, if_pos rfl]
    · rw [show fu f r v n = f n by simp [fu, e]]
      generalize (if f (n : Int) = -1 then (0 : Int) else 1) = w
      by_cases q : 0 ≤ r ∧ r < n
      · rw [if_pos q, if_pos (show 0 ≤ r ∧ r < ((n + 1 : Nat) : Int) by omega)]; omega
      · rw [if_neg q, if_neg (show ¬ (0 ≤ r ∧ r < ((n + 1 : Nat) : Int)) by omega)]; omega
theorem cfr_lt {f : Int → Int} {r : Int} {n : Nat} (hr : f r = -1) (h0 : 0 ≤ r) (h1 : r < n) : cfr f n < n := by
  have h := cfr_fu (v := 0) hr (by omega) n
  rw [if_pos ⟨h0, h1⟩] at h
  have := (cfr_le (fu f r 0) n).2
  omega
/-- far is how far each room is from e, -1 for those that can't be reached -/
def WD (f : Int → Int) (e : Int) (far : Int → Int) : Prop := far e = 0 ∧ (∀ r, 0 ≤ r → r < 16 → -1 ≤ far r ∧ far r ≤ 15) ∧
  (∀ r d, 0 ≤ r → r < 16 → 0 ≤ d → d < 4 → far r ≠ -1 → bhd f r d ≠ -1 → far (bhd f r d) ≠ -1 ∧ far (bhd f r d) ≤ far r + 1) ∧
  ∀ r, 0 ≤ r → r < 16 → far r ≠ -1 → r ≠ e → ∃ u d, 0 ≤ u ∧ u < 16 ∧ 0 ≤ d ∧ d < 4 ∧ far u ≠ -1 ∧ bhd f u d = r ∧ far r = far u + 1
theorem bhd_r {f : Int → Int} {r d : Int} (h0 : 0 ≤ r) (h1 : r < 16) : bhd f r d = -1 ∨ (0 ≤ bhd f r d ∧ bhd f r d < 16) := by
  unfold bhd
  split
  · exact Or.inl rfl
  · exact nb_r h0 h1
theorem WD_le {f far far' : Int → Int} {e : Int} (h : WD f e far) (h' : WD f e far') : ∀ (n : Nat) (r : Int), 0 ≤ r → r < 16 → far' r = n → far r ≠ -1 ∧ far r ≤ n
  | n, r, r0, r1, hn => by
    by_cases q : r = e
    · subst q
      rw [h.1]; omega
    · obtain ⟨u, d, u0, u1, d0, d1, hu, hb, hr⟩ := h'.2.2.2 r r0 r1 (by omega) q
      have hu2 := (h'.2.1 u u0 u1).1
      obtain ⟨m, rfl⟩ : ∃ m, n = m + 1 := ⟨n - 1, by omega⟩
      obtain ⟨i1, i2⟩ := WD_le h h' m u u0 u1 (by omega)
      have h3 := h.2.2.1 u d u0 u1 d0 d1 i1 (by rw [hb]; omega)
      rw [hb] at h3
      exact ⟨h3.1, by omega⟩
theorem WD_eq {f far far' : Int → Int} {e : Int} (h : WD f e far) (h' : WD f e far') {r : Int} (r0 : 0 ≤ r) (r1 : r < 16) : far r = far' r := by
  have a := h.2.1 r r0 r1
  have b := h'.2.1 r r0 r1
  by_cases q : far' r = -1
  · by_cases q2 : far r = -1
    · omega
    · exact absurd q (WD_le h' h (far r).toNat r r0 r1 (by omega)).1
  · have c := WD_le h h' (far' r).toNat r r0 r1 (by omega)
    have d := WD_le h' h (far r).toNat r r0 r1 (by omega)
    omega
theorem WD_congr {f far far' : Int → Int} {e : Int} (he : 0 ≤ e ∧ e < 16) (h : WD f e far) (hq : ∀ r, 0 ≤ r → r < 16 → far' r = far r) : WD f e far' := by
  refine ⟨by rw [hq e he.1 he.2]; exact h.1, fun r a b => by rw [hq r a b]; exact h.2.1 r a b, fun r d r0 r1 d0 d1 hf hb => ?_, fun r r0 r1 hf hr => ?_⟩
  · rw [hq r r0 r1] at hf ⊢
    have := (bhd_r (f := f) (d := d) r0 r1).resolve_left hb
    rw [hq _ this.1 this.2]
    exact h.2.2.1 r d r0 r1 d0 d1 hf hb
  · rw [hq r r0 r1] at hf ⊢
    obtain ⟨u, d, u0, u1, d0, d1, hu, hb, hr⟩ := h.2.2.2 r r0 r1 hf hr
    exact ⟨u, d, u0, u1, d0, d1, by rw [hq u u0 u1]; exact hu, hb, by rw [hq u u0 u1]; exact hr⟩
/-- the search under way -/
def BI (f : Int → Int) (e : Int) (far li : Int → Int) (cnt i dir : Int) : Prop :=
  (1 ≤ cnt ∧ cnt ≤ 16 ∧ 0 ≤ i ∧ i ≤ cnt ∧ 0 ≤ dir ∧ dir ≤ 4 ∧ 0 ≤ e ∧ e < 16) ∧
  (∀ j, 0 ≤ j → j < cnt → 0 ≤ li j ∧ li j < 16 ∧ 0 ≤ far (li j) ∧ far (li j) ≤ j) ∧
  (∀ r, 0 ≤ r → r < 16 → -1 ≤ far r ∧ (far r ≠ -1 → ∃ j, 0 ≤ j ∧ j < cnt ∧ li j = r)) ∧ far e = 0 ∧
  (∀ j j', 0 ≤ j → j ≤ j' → j' < cnt → far (li j) ≤ far (li j')) ∧
  (∀ j, 0 ≤ j → j < cnt → i < cnt → far (li j) ≤ far (li i) + 1) ∧
  (∀ j d, 0 ≤ j → j < cnt → 0 ≤ d → d < 4 → (j < i ∨ (j = i ∧ d < dir)) → bhd f (li j) d ≠ -1 → far (bhd f (li j) d) ≠ -1 ∧ far (bhd f (li j) d) ≤ far (li j) + 1) ∧
  (∀ r, 0 ≤ r → r < 16 → far r ≠ -1 → r ≠ e → ∃ u d, 0 ≤ u ∧ u < 16 ∧ 0 ≤ d ∧ d < 4 ∧ far u ≠ -1 ∧ bhd f u d = r ∧ far r = far u + 1) ∧ cfr far 16 = cnt
theorem BI_0 {f : Int → Int} {e : Int} {far li : Int → Int} (he : 0 ≤ e ∧ e < 16) (hf : ∀ r, 0 ≤ r → r < 16 → far r = if r = e then 0 else -1) (hl : li 0 = e) : BI f e far li 1 0 0 := by
  have fe : far e = 0 := by rw [hf e he.1 he.2, if_pos rfl]
  refine ⟨by omega, fun j a b => ?_, fun r a b => ⟨by rw [hf r a b]; split <;> omega, fun q => ⟨0, by omega, by omega, ?_⟩⟩, fe, fun j j' a b c => ?_, fun j a b c => ?_, fun j d a b c c2 c3 => by omega, fun r a b c d => ?_, ?_⟩
  · rw [show j = 0 by omega, hl, fe]; omega
  · rw [hf r a b] at q
    by_cases q2 : r = e
    · rw [hl, q2]
    · rw [if_neg q2] at q; exact absurd rfl q
  · rw [show j = j' by omega]; exact Int.le_refl _
  · rw [show j = 0 by omega]; omega
  · rw [hf r a b, if_neg d] at c; exact absurd rfl c
  · have h0 : ∀ n : Nat, n ≤ 16 → cfr far n = if e < n then 1 else 0 := by
      intro n
      induction n with
      | zero => intro _; simp [cfr]; omega
      | succ n ih =>
        intro hn
        rw [cfr, ih (by omega), hf n (by omega) (by omega)]
        by_cases q : (n : Int) = e
        · rw [if_pos q, if_neg (show ¬ e < (n : Int) by omega), if_neg (by omega), if_pos (by omega)]; omega
        · rw [if_neg q]
          by_cases q2 : e < (n : Int)
          · rw [if_pos q2, if_pos rfl, if_pos (by omega)]; omega
          · rw [if_neg q2, if_pos rfl, if_neg (by omega)]; omega
    rw [h0 16 (by omega), if_pos (by omega)]
theorem BI_skip {f : Int → Int} {e : Int} {far li : Int → Int} {cnt i dir : Int} (h : BI f e far li cnt i dir) (hi : i < cnt) (hd : dir < 4) (hs : bhd f (li i) dir = -1 ∨ far (bhd f (li i) dir) ≠ -1) : BI f e far li cnt i (dir + 1) := by
  obtain ⟨h1, h2, h3, h4, h5, h6, h7, h8, h9⟩ := h
  refine ⟨by omega, h2, h3, h4, h5, h6, fun j d a b c c2 c3 hb => ?_, h8, h9⟩
  by_cases q : j = i ∧ d = dir
  · obtain ⟨rfl, rfl⟩ := q
    have hf := hs.resolve_left hb
    refine ⟨hf, ?_⟩
    obtain ⟨l0, l1, -⟩ := h2 j a b
    have hr := (bhd_r (f := f) (d := d) l0 l1).resolve_left hb
    obtain ⟨j', p0, p1, p2⟩ := (h3 _ hr.1 hr.2).2 hf
    have := h6 j' p0 p1 hi
    rw [p2] at this
    exact this
  · exact h7 j d a b c c2 (by omega) hb
theorem BI_next {f : Int → Int} {e : Int} {far li : Int → Int} {cnt i : Int} (h : BI f e far li cnt i 4) (hi : i < cnt) : BI f e far li cnt (i + 1) 0 := by
  obtain ⟨h1, h2, h3, h4, h5, h6, h7, h8, h9⟩ := h
  refine ⟨by omega, h2, h3, h4, h5, fun j a b c => ?_, fun j d a b c c2 c3 hb => h7 j d a b c c2 (by omega) hb, h8, h9⟩
  have a1 := h6 j a b hi
  have a2 := h5 i (i + 1) (by omega) (by omega) c
  omega
theorem BI_end {f : Int → Int} {e : Int} {far li : Int → Int} {cnt i : Int} (h : BI f e far li cnt i 0) (hi : cnt ≤ i) : WD f e far := by
  obtain ⟨h1, h2, h3, h4, h5, h6, h7, h8, h9⟩ := h
  refine ⟨h4, fun r a b => ⟨(h3 r a b).1, ?_⟩, fun r d a b c c2 hf hb => ?_, h8⟩
  · by_cases q : far r = -1
    · omega
    · obtain ⟨j, p0, p1, p2⟩ := (h3 r a b).2 q
      have := (h2 j p0 p1).2.2.2
      rw [p2] at this
      omega
  · obtain ⟨j, p0, p1, p2⟩ := (h3 r a b).2 hf
    have := h7 j d p0 p1 c c2 (by omega) (by rw [p2]; exact hb)
    rw [p2] at this
    exact this
theorem BI_lt {f : Int → Int} {e : Int} {far li : Int → Int} {cnt i dir : Int} (h : BI f e far li cnt i dir) (hi : i < cnt) (hb : bhd f (li i) dir ≠ -1) (hf : far (bhd f (li i) dir) = -1) : cnt < 16 := by
  obtain ⟨h1, h2, h3, h4, h5, h6, h7, h8, h9⟩ := h
  obtain ⟨l0, l1, -⟩ := h2 i (by omega) hi
  have hr := (bhd_r (f := f) (d := dir) l0 l1).resolve_left hb
  have := cfr_lt (n := 16) hf hr.1 (by omega)
  omega
theorem BI_add {f : Int → Int} {e : Int} {far li : Int → Int} {cnt i dir : Int} (h : BI f e far li cnt i dir) (hi : i < cnt) (hd : dir < 4) (hb : bhd f (li i) dir ≠ -1) (hf : far (bhd f (li i) dir) = -1) :
    BI f e (fu far (bhd f (li i) dir) (far (li i) + 1)) (fu li cnt (bhd f (li i) dir)) (cnt + 1) i (dir + 1) := by
  have h16 := BI_lt h hi hb hf
  obtain ⟨h1, h2, h3, h4, h5, h6, h7, h8, h9⟩ := h
  obtain ⟨l0, l1, l2, l3⟩ := h2 i (by omega) hi
  have hr := (bhd_r (f := f) (d := dir) l0 l1).resolve_left hb
  generalize hN : bhd f (li i) dir = N at *
  have hne : ∀ j, 0 ≤ j → j < cnt → li j ≠ N := fun j a b q => by
    have := (h2 j a b).2.2.1
    rw [q] at this; omega
  have hli : ∀ j, j < cnt → fu li cnt N j = li j := fun j b => by simp only [fu]; exact if_neg (by omega)
  have hlc : fu li cnt N cnt = N := by simp [fu]
  have hfl : ∀ j, 0 ≤ j → j < cnt → fu far N (far (li i) + 1) (li j) = far (li j) := fun j a b => by simp only [fu]; exact if_neg (hne j a b)
  have hfN : fu far N (far (li i) + 1) N = far (li i) + 1 := by simp [fu]
  have hfo : ∀ r, far r ≠ -1 → fu far N (far (li i) + 1) r = far r := fun r q => by
    simp only [fu]; exact if_neg (fun q2 => q (by rw [q2]; exact hf))
  refine ⟨by omega, fun j a b => ?_, fun r a b => ⟨?_, fun q => ?_⟩, ?_, fun j j' a b c => ?_, fun j a b c => ?_, fun j d a b c c2 c3 c4 => ?_, fun r a b c d => ?_, ?_⟩
  · by_cases q : j = cnt
    · subst q; rw [hlc, hfN]; omega
    · rw [hli j (by omega), hfl j a (by omega)]; exact h2 j a (by omega)
  · simp only [fu]
    split
    · omega
    · exact (h3 r a b).1
  · by_cases q2 : r = N
    · exact ⟨cnt, by omega, by omega, by rw [hlc, q2]⟩
    · simp only [fu, q2, if_false] at q
      obtain ⟨j, p0, p1, p2⟩ := (h3 r a b).2 q
      exact ⟨j, p0, by omega, by rw [hli j p1, p2]⟩
  · rw [hfo e (by omega)]; exact h4
  · by_cases q : j' = cnt
    · subst q
      rw [hlc, hfN]
      by_cases q2 : j = j'
      · subst q2; rw [hlc, hfN]; omega
      · rw [hli j (by omega), hfl j a (by omega)]
        exact h6 j a (by omega) hi
    · rw [hli j' (by omega), hfl j' (by omega) (by omega), hli j (by omega), hfl j a (by omega)]
      exact h5 j j' a b (by omega)
  · rw [hli i hi, hfl i (by omega) hi]
    by_cases q : j = cnt
    · subst q; rw [hlc, hfN]; omega
    · rw [hli j (by omega), hfl j a (by omega)]; exact h6 j a (by omega) hi
  · have hj : j < cnt := by omega
    rw [hli j hj] at c4 ⊢
    rw [hfl j a hj]
    by_cases q : j = i ∧ d = dir
    · obtain ⟨rfl, rfl⟩ := q
      rw [hN, hfN]; omega
    · obtain ⟨x1, x2⟩ := h7 j d a hj c c2 (by omega) c4
      rw [hfo _ x1]
      exact ⟨x1, x2⟩
  · by_cases q : r = N
    · subst q
      refine ⟨li i, dir, l0, l1, by omega, hd, ?_, hN, ?_⟩
      · rw [hfl i (by omega) hi]; omega
      · rw [hfN, hfl i (by omega) hi]
    · simp only [fu, q, if_false] at c
      obtain ⟨u, d', u0, u1, d0, d1, hu, hb2, hr2⟩ := h8 r a b c d
      exact ⟨u, d', u0, u1, d0, d1, by rw [hfo u hu]; exact hu, hb2, by rw [hfo u hu, hfo r c]; exact hr2⟩
  · rw [cfr_fu hf (by omega), h9, if_pos ⟨hr.1, by omega⟩]
/-! measureBySearch -/
def msH (h : ac_H) (a c : Int) (far li : Int → Int) : ac_H := ast (ast (up (up h 0 c 0 10) 1 c 0 16) (h 405 a 0) far) c li
theorem msH_k {h : ac_H} {a c : Int} {far li : Int → Int} {k : Nat} {a' j : Int} (e0 : k ≠ 0) (e1 : k ≠ 1) (e2 : k ≠ 10) : msH h a c far li k a' j = h k a' j := by
  unfold msH; rw [ast_k e2, ast_k e2, up_k e1, up_k e0]
theorem msH_0 {h : ac_H} {a c : Int} {far li : Int → Int} {a' : Int} (e : a' ≠ c) : msH h a c far li 0 a' 0 = h 0 a' 0 := by
  unfold msH; rw [ast_k (by decide), ast_k (by decide), up_k (by decide), up_a e]
theorem msH_1 {h : ac_H} {a c : Int} {far li : Int → Int} {a' : Int} (e : a' ≠ c) : msH h a c far li 1 a' 0 = h 1 a' 0 := by
  unfold msH; rw [ast_k (by decide), ast_k (by decide), up_a e, up_k (by decide)]
theorem msH_c0 {h : ac_H} {a c : Int} {far li : Int → Int} : msH h a c far li 0 c 0 = 10 := by
  unfold msH; rw [ast_k (by decide), ast_k (by decide), up_k (by decide), up_self]
theorem msH_c1 {h : ac_H} {a c : Int} {far li : Int → Int} : msH h a c far li 1 c 0 = 16 := by
  unfold msH; rw [ast_k (by decide), ast_k (by decide), up_self]
theorem msH_L {h : ac_H} {a c : Int} {far li : Int → Int} : msH h a c far li 10 c = li := by unfold msH; rw [ast_10']
theorem msH_T {h : ac_H} {a c : Int} {far li : Int → Int} (e : h 405 a 0 ≠ c) : msH h a c far li 10 (h 405 a 0) = far := by unfold msH; rw [ast_af e, ast_10']
theorem msH_o {h : ac_H} {a c a' : Int} {far li : Int → Int} (e : a' ≠ c) (e2 : a' ≠ h 405 a 0) : msH h a c far li 10 a' = h 10 a' := by unfold msH; rw [ast_af e, ast_af e2, up_kf (by decide), up_kf (by decide)]
theorem msH_up {h : ac_H} {a c : Int} {far li : Int → Int} {i v j w : Int} (e : h 405 a 0 ≠ c) : up (up (msH h a c far li) 10 (h 405 a 0) i v) 10 c j w = msH h a c (fu far i v) (fu li j w) := by
  funext k' a' j'
  simp only [msH, up, ast, fu]
  by_cases e1 : k' = 10
  · subst e1
    by_cases e2 : a' = c
    · have e4 : ¬ c = h 405 a 0 := fun q => e q.symm
      simp [e2, e4]
    · by_cases e3 : a' = h 405 a 0 <;> simp [e2, e3, e]
  · simp [e1]
def spX3_measureBySearch : ac_Sp := sc_R (fun a h => FLk h a) (fun a h v h' => v = none ∧ ∃ far, WD (h 10 (h 402 a 0)) (h 400 a 0) far ∧ ag h' (ast h (h 405 a 0) far)) (fun _ _ _ _ => False)
def ivX3_measureBySearch (a : Int) (h : ac_H) : Nat → Nat → ac_S := fun j m => match j with
  | 0 => fun L S g k n => m = 5000 ∧ ent0 [some (.inr (.inl a)), none, none, none, none, none, none] h L S g k n
  | 1 => fun L S g k n => ∃ (c cnt i : Int) (far li : Int → Int) (o4 o5 o6 : Option ac_V), (m : Int) = (16 - i) * 10 ∧ ac_new h c ∧ BI (h 10 (h 402 a 0)) (h 400 a 0) far li cnt i 0 ∧ L = [some (.inr (.inl a)), some (.inr (.inl c)), some (.inl cnt), some (.inl i), o4, o5, o6] ∧ S = [] ∧ g = msH h a c far li ∧ k = 1 ∧ n = 16
  | 2 => fun L S g k n => ∃ (c cnt i d : Int) (far li : Int → Int) (o6 : Option ac_V), (m : Int) = (16 - i) * 10 - 1 - d ∧ ac_new h c ∧ BI (h 10 (h 402 a 0)) (h 400 a 0) far li cnt i d ∧ i < cnt ∧ L = [some (.inr (.inl a)), some (.inr (.inl c)), some (.inl cnt), some (.inl i), some (.inl (li i)), some (.inl d), o6] ∧ S = [] ∧ g = msH h a c far li ∧ k = 1 ∧ n = 16
  | _ => fun _ _ _ _ _ => False
set_option maxRecDepth 100000 in
set_option maxHeartbeats 4000000 in
theorem mtX3_measureBySearch {G : ac_G} {l : Launch} : ac_Met G l yX3_measureBySearch mX3_measureBySearch 2 45 1 16 spX3_measureBySearch := by
  refine ac_meth (pcs := pcX3_measureBySearch) (B := fun P X J j => vcX3_measureBySearch spJ7_fill_53178 spX3_behindDoor P X J j) (by decide) rfl rfl rfl (fun P X J hJ j => sdX3_measureBySearch mtJ7_fill_53178 mtX3_behindDoor P X J hJ j) (hp_R (by decide)) fun As h hp => ?_
  obtain ⟨a, rfl, hp⟩ := sh_R_inv hp
  have hf := hp
  obtain ⟨f1, f2, f3, f4, f5, f6, f7, f8, f9, f10, f11, f12, f13, f14, f15, f16, f17⟩ := hp
  refine ⟨ivX3_measureBySearch a h, 5000, ⟨rfl, rfl, rfl, rfl, rfl, rfl⟩, fun j m L S g k n hI => ?_⟩
  match j, hI with
  | 0, hI =>
    obtain ⟨hm, rfl, rfl, rfl, rfl, rfl⟩ := hI
    simp only [spX3_measureBySearch, vcX3_measureBySearch, mX3_measureBySearch, spJ7_fill_53178, spX3_behindDoor, ac_ent, ldI, ldR, stI, stR, inc, cI, cJ, cN, bop, oAdd, oSub, oMul, oAnd, oOr, oXor, oShl, oShr, oUshr, oRem, oDiv, oMx, oMn, oI2l, oLcmp, oDup, oDup2, oDupX1, oPop, bIc, bI0, bNul, getI, getR, putI, putZ, putR, aLen, aldI, aldZ, aldJ, aldR, astI, astZ, astJ, astR, nwO, nwA, gsT, oObj, oCpy, oCln, oCst, rtI, rtZ, rtR, rtV, thr, call, callH, ac_hsel, ac_as, ac_rs, ac_cs, ac_rcv, List.map_cons, List.map_nil, List.length_cons, List.length_nil, List.replicate, List.append_nil, List.cons_append, List.nil_append, List.getElem?_cons_zero, List.getElem?_cons_succ, List.set, Nat.zero_add, Nat.add_zero, Nat.le_refl, Nat.reduceAdd, Nat.reduceSub, Nat.reduceLeDiff, Int.reduceLT, Int.reduceLE, Int.reduceNeg, Int.reduceEq, true_and, and_true, true_or, or_true, not_true_eq_false, not_false_eq_true, false_implies, true_implies, implies_true, reduceIte, and_self, Int.reduceAdd, Int.reduceMul, Int.reduceSub, eq_self, Int.add_zero, Int.zero_add, String.reduceEq, Nat.zero_le, Option.some.injEq, Sum.inl.injEq, Sum.inr.injEq, reduceCtorEq, Int.reduceToNat, Option.toList_some, Option.toList_none, ac_cs, ac_c10, ac_c11, ac_c12, ac_c13, ac_c14, ac_c15, ac_c16, ac_c17, sc_E, sh_E, sc_I, sh_I, sc_II, sh_II, sc_III, sh_III, sc_R, sh_R, sc_RI, sh_RI, sc_RII, sh_RII, sc_RIII, sh_RIII, sc_RIIII, sh_RIIII, sc_RR, sh_RR, sc_RRI, sh_RRI, sc_RRR, sh_RRR, sc_RIR, sh_RIR, sc_RIRI, sh_RIRI, sc_RRII, sh_RRII, sc_RRIII, sh_RRIII, sc_RIIRR, sh_RIIRR, sc_RIIIRR, sh_RIIIRR, sc_RIIR, sh_RIIR, sc_RRIIR, sh_RRIIR, sc_RRIIIR, sh_RRIIIR, sc_RRIIIIR, sh_RRIIIIR, sc_RRIR, sh_RRIR, f1]
    intro c hc
    have Ec : g 405 a 0 ≠ c := new_ne hc (by rw [f8]; decide)
    have ac : a ≠ c := new_ne hc (by rw [f1]; decide)
    have e1 : up g 0 c 0 10 0 a 0 = 23 := by rw [up_a ac, f1]
    have e3 : up g 0 c 0 10 0 (g 405 a 0) 0 = 10 := by rw [up_a Ec, f8]
    have e4 : up (up g 0 c 0 10) 1 c 0 16 1 (g 405 a 0) 0 = 16 := by rw [up_a Ec, up_k (by decide), f9]
    have e5 : up g 0 c 0 10 0 c 0 = 10 := by rw [up_self]
    have e6 : up (up g 0 c 0 10) 1 c 0 16 1 c 0 = 16 := by rw [up_self]
    simp only [up_k, ast_k, up_kf, ast_kf, ne_eq, Nat.reduceEqDiff, not_false_eq_true, e1, e3, e4, ac_ent, ldI, ldR, stI, stR, inc, cI, cJ, cN, bop, oAdd, oSub, oMul, oAnd, oOr, oXor, oShl, oShr, oUshr, oRem, oDiv, oMx, oMn, oI2l, oLcmp, oDup, oDup2, oDupX1, oPop, bIc, bI0, bNul, getI, getR, putI, putZ, putR, aLen, aldI, aldZ, aldJ, aldR, astI, astZ, astJ, astR, nwO, nwA, gsT, oObj, oCpy, oCln, oCst, rtI, rtZ, rtR, rtV, thr, call, callH, ac_hsel, ac_as, ac_rs, ac_cs, ac_rcv, List.map_cons, List.map_nil, List.length_cons, List.length_nil, List.replicate, List.append_nil, List.cons_append, List.nil_append, List.getElem?_cons_zero, List.getElem?_cons_succ, List.set, Nat.zero_add, Nat.add_zero, Nat.le_refl, Nat.reduceAdd, Nat.reduceSub, Nat.reduceLeDiff, Int.reduceLT, Int.reduceLE, Int.reduceNeg, Int.reduceEq, true_and, and_true, true_or, or_true, not_true_eq_false, not_false_eq_true, false_implies, true_implies, implies_true, reduceIte, and_self, Int.reduceAdd, Int.reduceMul, Int.reduceSub, eq_self, Int.add_zero, Int.zero_add, String.reduceEq, Nat.zero_le, Option.some.injEq, Sum.inl.injEq, Sum.inr.injEq, reduceCtorEq, Int.reduceToNat, Option.toList_some, Option.toList_none, ac_cs, ac_c10, ac_c11, ac_c12, ac_c13, ac_c14, ac_c15, ac_c16, ac_c17, sc_E, sh_E, sc_I, sh_I, sc_II, sh_II, sc_III, sh_III, sc_R, sh_R, sc_RI, sh_RI, sc_RII, sh_RII, sc_RIII, sh_RIII, sc_RIIII, sh_RIIII, sc_RR, sh_RR, sc_RRI, sh_RRI, sc_RRR, sh_RRR, sc_RIR, sh_RIR, sc_RIRI, sh_RIRI, sc_RRII, sh_RRII, sc_RRIII, sh_RRIII, sc_RIIRR, sh_RIIRR, sc_RIIIRR, sh_RIIIRR, sc_RIIR, sh_RIIR, sc_RRIIR, sh_RRIIR, sc_RRIIIR, sh_RRIIIR, sc_RRIIIIR, sh_RRIIIIR, sc_RRIR, sh_RRIR]
    rintro v h' ⟨rfl, rfl⟩
    simp only [up10, up_k, ast_k, up_kf, ast_kf, ne_eq, Nat.reduceEqDiff, not_false_eq_true, e1, e3, e4, e5, e6, f2, f3, ac_ent, ldI, ldR, stI, stR, inc, cI, cJ, cN, bop, oAdd, oSub, oMul, oAnd, oOr, oXor, oShl, oShr, oUshr, oRem, oDiv, oMx, oMn, oI2l, oLcmp, oDup, oDup2, oDupX1, oPop, bIc, bI0, bNul, getI, getR, putI, putZ, putR, aLen, aldI, aldZ, aldJ, aldR, astI, astZ, astJ, astR, nwO, nwA, gsT, oObj, oCpy, oCln, oCst, rtI, rtZ, rtR, rtV, thr, call, callH, ac_hsel, ac_as, ac_rs, ac_cs, ac_rcv, List.map_cons, List.map_nil, List.length_cons, List.length_nil, List.replicate, List.append_nil, List.cons_append, List.nil_append, List.getElem?_cons_zero, List.getElem?_cons_succ, List.set, Nat.zero_add, Nat.add_zero, Nat.le_refl, Nat.reduceAdd, Nat.reduceSub, Nat.reduceLeDiff, Int.reduceLT, Int.reduceLE, Int.reduceNeg, Int.reduceEq, true_and, and_true, true_or, or_true, not_true_eq_false, not_false_eq_true, false_implies, true_implies, implies_true, reduceIte, and_self, Int.reduceAdd, Int.reduceMul, Int.reduceSub, eq_self, Int.add_zero, Int.zero_add, String.reduceEq, Nat.zero_le, Option.some.injEq, Sum.inl.injEq, Sum.inr.injEq, reduceCtorEq, Int.reduceToNat, Option.toList_some, Option.toList_none, ac_cs, ac_c10, ac_c11, ac_c12, ac_c13, ac_c14, ac_c15, ac_c16, ac_c17, sc_E, sh_E, sc_I, sh_I, sc_II, sh_II, sc_III, sh_III, sc_R, sh_R, sc_RI, sh_RI, sc_RII, sh_RII, sc_RIII, sh_RIII, sc_RIIII, sh_RIIII, sc_RR, sh_RR, sc_RRI, sh_RRI, sc_RRR, sh_RRR, sc_RIR, sh_RIR, sc_RIRI, sh_RIRI, sc_RRII, sh_RRII, sc_RRIII, sh_RRIII, sc_RIIRR, sh_RIIRR, sc_RIIIRR, sh_RIIIRR, sc_RIIR, sh_RIIR, sc_RRIIR, sh_RRIIR, sc_RRIIIR, sh_RRIIIR, sc_RRIIIIR, sh_RRIIIIR, sc_RRIR, sh_RRIR]
    refine ⟨160, by omega, c, 1, 0, fu (fil 16 (-1) (g 10 (g 405 a 0))) (g 400 a 0) 0, fu (fun _ => 0) 0 (g 400 a 0), none, none, none, by omega, hc, BI_0 ⟨f2, f3⟩ (fun r r0 r1 => ?_) ?_, rfl, rfl, ?_, rfl, rfl⟩
    · simp only [fu, fil]
      rw [if_pos (show 0 ≤ r ∧ r < 16 from ⟨r0, r1⟩)]
    · simp [fu]
    · have e8 : g 10 c = fun _ => 0 := by funext j; exact hc.2 _ _
      have e9 : c ≠ g 405 a 0 := fun q => Ec q.symm
      simp only [ast_af Ec, ast_af e9, ast_10', up_k, ast_k, up_kf, ast_kf, ne_eq, Nat.reduceEqDiff, not_false_eq_true, e8]
      funext k' a' j'
      simp only [msH, ast]
      by_cases e1 : k' = 10
      · subst e1
        by_cases e2 : a' = c
        · simp [e2, e9]
        · by_cases e3 : a' = g 405 a 0 <;> simp [e2, e3, Ec]
      · simp [e1]
  | 1, hI =>
    obtain ⟨c, cnt, i, far', li, o4, o5, o6, hm, hc, hb, rfl, rfl, rfl, rfl, rfl⟩ := hI
    simp only [spX3_measureBySearch, vcX3_measureBySearch, mX3_measureBySearch, spJ7_fill_53178, spX3_behindDoor, ac_ent, ldI, ldR, stI, stR, inc, cI, cJ, cN, bop, oAdd, oSub, oMul, oAnd, oOr, oXor, oShl, oShr, oUshr, oRem, oDiv, oMx, oMn, oI2l, oLcmp, oDup, oDup2, oDupX1, oPop, bIc, bI0, bNul, getI, getR, putI, putZ, putR, aLen, aldI, aldZ, aldJ, aldR, astI, astZ, astJ, astR, nwO, nwA, gsT, oObj, oCpy, oCln, oCst, rtI, rtZ, rtR, rtV, thr, call, callH, ac_hsel, ac_as, ac_rs, ac_cs, ac_rcv, List.map_cons, List.map_nil, List.length_cons, List.length_nil, List.replicate, List.append_nil, List.cons_append, List.nil_append, List.getElem?_cons_zero, List.getElem?_cons_succ, List.set, Nat.zero_add, Nat.add_zero, Nat.le_refl, Nat.reduceAdd, Nat.reduceSub, Nat.reduceLeDiff, Int.reduceLT, Int.reduceLE, Int.reduceNeg, Int.reduceEq, true_and, and_true, true_or, or_true, not_true_eq_false, not_false_eq_true, false_implies, true_implies, implies_true, reduceIte, and_self, Int.reduceAdd, Int.reduceMul, Int.reduceSub, eq_self, Int.add_zero, Int.zero_add, String.reduceEq, Nat.zero_le, Option.some.injEq, Sum.inl.injEq, Sum.inr.injEq, reduceCtorEq, Int.reduceToNat, Option.toList_some, Option.toList_none, ac_cs, ac_c10, ac_c11, ac_c12, ac_c13, ac_c14, ac_c15, ac_c16, ac_c17, sc_E, sh_E, sc_I, sh_I, sc_II, sh_II, sc_III, sh_III, sc_R, sh_R, sc_RI, sh_RI, sc_RII, sh_RII, sc_RIII, sh_RIII, sc_RIIII, sh_RIIII, sc_RR, sh_RR, sc_RRI, sh_RRI, sc_RRR, sh_RRR, sc_RIR, sh_RIR, sc_RIRI, sh_RIRI, sc_RRII, sh_RRII, sc_RRIII, sh_RRIII, sc_RIIRR, sh_RIIRR, sc_RIIIRR, sh_RIIIRR, sc_RIIR, sh_RIIR, sc_RRIIR, sh_RRIIR, sc_RRIIIR, sh_RRIIIR, sc_RRIIIIR, sh_RRIIIIR, sc_RRIR, sh_RRIR, msH_c0, msH_c1, msH_L]
    have Ec : h 405 a 0 ≠ c := new_ne hc (by rw [f8]; decide)
    have fin : cnt ≤ i → ∃ far, WD (h 10 (h 402 a 0)) (h 400 a 0) far ∧ ag (msH h a c far' li) (ast h (h 405 a 0) far) := by
      intro q
      refine ⟨far', BI_end hb q, fun k' a' j' h0 => ?_⟩
      have ne : a' ≠ c := fun e => h0 (by rw [e, ast_k (by decide)]; exact hc.2 _ _)
      simp only [msH, ast, up]
      by_cases e1 : k' = 10
      · subst e1
        by_cases e3 : a' = h 405 a 0 <;> simp [ne, e3, Ec]
      · simp [e1, ne]
    have hb1 := hb.1
    refine ⟨fun q => fin (by omega), fun q => ⟨fun q2 => fin q2, fun q2 => ⟨⟨by omega, by omega⟩, ?_⟩⟩⟩
    exact ⟨((16 - i) * 10 - 1).toNat, by omega, c, cnt, i, 0, far', li, o6, by omega, hc, hb, by omega, rfl, rfl, rfl, rfl, rfl⟩
  | 2, hI =>
    obtain ⟨c, cnt, i, d, far, li, o6, hm, hc, hb, hi, rfl, rfl, rfl, rfl, rfl⟩ := hI
    have Ec : h 405 a 0 ≠ c := new_ne hc (by rw [f8]; decide)
    have Dc : h 402 a 0 ≠ c := new_ne hc (by rw [f4]; decide)
    have ac : a ≠ c := new_ne hc (by rw [f1]; decide)
    simp only [spX3_measureBySearch, vcX3_measureBySearch, mX3_measureBySearch, spJ7_fill_53178, spX3_behindDoor, ac_ent, ldI, ldR, stI, stR, inc, cI, cJ, cN, bop, oAdd, oSub, oMul, oAnd, oOr, oXor, oShl, oShr, oUshr, oRem, oDiv, oMx, oMn, oI2l, oLcmp, oDup, oDup2, oDupX1, oPop, bIc, bI0, bNul, getI, getR, putI, putZ, putR, aLen, aldI, aldZ, aldJ, aldR, astI, astZ, astJ, astR, nwO, nwA, gsT, oObj, oCpy, oCln, oCst, rtI, rtZ, rtR, rtV, thr, call, callH, ac_hsel, ac_as, ac_rs, ac_cs, ac_rcv, List.map_cons, List.map_nil, List.length_cons, List.length_nil, List.replicate, List.append_nil, List.cons_append, List.nil_append, List.getElem?_cons_zero, List.getElem?_cons_succ, List.set, Nat.zero_add, Nat.add_zero, Nat.le_refl, Nat.reduceAdd, Nat.reduceSub, Nat.reduceLeDiff, Int.reduceLT, Int.reduceLE, Int.reduceNeg, Int.reduceEq, true_and, and_true, true_or, or_true, not_true_eq_false, not_false_eq_true, false_implies, true_implies, implies_true, reduceIte, and_self, Int.reduceAdd, Int.reduceMul, Int.reduceSub, eq_self, Int.add_zero, Int.zero_add, String.reduceEq, Nat.zero_le, Option.some.injEq, Sum.inl.injEq, Sum.inr.injEq, reduceCtorEq, Int.reduceToNat, Option.toList_some, Option.toList_none, ac_cs, ac_c10, ac_c11, ac_c12, ac_c13, ac_c14, ac_c15, ac_c16, ac_c17, sc_E, sh_E, sc_I, sh_I, sc_II, sh_II, sc_III, sh_III, sc_R, sh_R, sc_RI, sh_RI, sc_RII, sh_RII, sc_RIII, sh_RIII, sc_RIIII, sh_RIIII, sc_RR, sh_RR, sc_RRI, sh_RRI, sc_RRR, sh_RRR, sc_RIR, sh_RIR, sc_RIRI, sh_RIRI, sc_RRII, sh_RRII, sc_RRIII, sh_RRIII, sc_RIIRR, sh_RIIRR, sc_RIIIRR, sh_RIIIRR, sc_RIIR, sh_RIIR, sc_RRIIR, sh_RRIIR, sc_RRIIIR, sh_RRIIIR, sc_RRIIIIR, sh_RRIIIIR, sc_RRIR, sh_RRIR, msH_0 ac, msH_0 Dc, msH_1 Dc, msH_k, up_k, ast_k, up_kf, ast_kf, ne_eq, Nat.reduceEqDiff, not_false_eq_true, f1, f4, f5]
    have hb1 := hb.1
    have hl := hb.2.1 i (by omega) hi
    refine ⟨fun q => ?_, fun q => ⟨⟨hl.1, hl.2.1⟩, ?_⟩⟩
    · have hd : d = 4 := by omega
      subst hd
      exact ⟨((16 - (i + 1)) * 10).toNat, by omega, c, cnt, i + 1, far, li, _, _, _, by omega, hc, BI_next hb hi, by simp (disch := omega) only [wr_of]; rfl, rfl, rfl, rfl, rfl⟩
    · rintro v h' ⟨rfl, rfl⟩
      simp only [msH_k, msH_o Dc (show h 402 a 0 ≠ h 405 a 0 from f13), msH_0 ac, msH_0 Ec, msH_1 Ec, msH_T Ec, msH_c0, msH_c1, up_k, ast_k, up_kf, ast_kf, ne_eq, Nat.reduceEqDiff, not_false_eq_true, f1, f8, f9, ac_ent, ldI, ldR, stI, stR, inc, cI, cJ, cN, bop, oAdd, oSub, oMul, oAnd, oOr, oXor, oShl, oShr, oUshr, oRem, oDiv, oMx, oMn, oI2l, oLcmp, oDup, oDup2, oDupX1, oPop, bIc, bI0, bNul, getI, getR, putI, putZ, putR, aLen, aldI, aldZ, aldJ, aldR, astI, astZ, astJ, astR, nwO, nwA, gsT, oObj, oCpy, oCln, oCst, rtI, rtZ, rtR, rtV, thr, call, callH, ac_hsel, ac_as, ac_rs, ac_cs, ac_rcv, List.map_cons, List.map_nil, List.length_cons, List.length_nil, List.replicate, List.append_nil, List.cons_append, List.nil_append, List.getElem?_cons_zero, List.getElem?_cons_succ, List.set, Nat.zero_add, Nat.add_zero, Nat.le_refl, Nat.reduceAdd, Nat.reduceSub, Nat.reduceLeDiff, Int.reduceLT, Int.reduceLE, Int.reduceNeg, Int.reduceEq, true_and, and_true, true_or, or_true, not_true_eq_false, not_false_eq_true, false_implies, true_implies, implies_true, reduceIte, and_self, Int.reduceAdd, Int.reduceMul, Int.reduceSub, eq_self, Int.add_zero, Int.zero_add, String.reduceEq, Nat.zero_le, Option.some.injEq, Sum.inl.injEq, Sum.inr.injEq, reduceCtorEq, Int.reduceToNat, Option.toList_some, Option.toList_none, ac_cs, ac_c10, ac_c11, ac_c12, ac_c13, ac_c14, ac_c15, ac_c16, ac_c17, sc_E, sh_E, sc_I, sh_I, sc_II, sh_II, sc_III, sh_III, sc_R, sh_R, sc_RI, sh_RI, sc_RII, sh_RII, sc_RIII, sh_RIII, sc_RIIII, sh_RIIII, sc_RR, sh_RR, sc_RRI, sh_RRI, sc_RRR, sh_RRR, sc_RIR, sh_RIR, sc_RIRI, sh_RIRI, sc_RRII, sh_RRII, sc_RRIII, sh_RRIII, sc_RIIRR, sh_RIIRR, sc_RIIIRR, sh_RIIIRR, sc_RIIR, sh_RIIR, sc_RRIIR, sh_RRIIR, sc_RRIIIR, sh_RRIIIR, sc_RRIIIIR, sh_RRIIIIR, sc_RRIR, sh_RRIR]
      have skp : (bhd (h 10 (h 402 a 0)) (li i) d = -1 ∨ far (bhd (h 10 (h 402 a 0)) (li i) d) ≠ -1) → ∀ x, ∃ m', m' < m ∧ ivX3_measureBySearch a h 2 m' [some (.inr (.inl a)), some (.inr (.inl c)), some (.inl cnt), some (.inl i), some (.inl (li i)), some (.inl (wr (d + 1))), x] [] (msH h a c far li) 1 16 := fun q2 x =>
        ⟨((16 - i) * 10 - 1 - (d + 1)).toNat, by omega, c, cnt, i, d + 1, far, li, x, by omega, hc, BI_skip hb hi (by omega) q2, hi, by simp (disch := omega) only [wr_of], rfl, rfl, rfl, rfl⟩
      refine ⟨fun q2 => skp (Or.inl q2) _, fun q2 => ?_⟩
      have hr := (bhd_r (f := h 10 (h 402 a 0)) (d := d) hl.1 hl.2.1).resolve_left q2
      refine ⟨hr, fun q3 => ⟨fun q4 => ?_, fun q4 => ?_⟩, fun q3 => skp (Or.inr q3) _⟩
      · have := BI_lt hb hi q2 q3
        omega
      · refine ⟨⟨hl.1, hl.2.1⟩, hr, ⟨by omega, by omega⟩, ?_⟩
        rw [msH_up Ec]
        simp (disch := omega) only [wr_of]
        exact ⟨((16 - i) * 10 - 1 - (d + 1)).toNat, by omega, c, cnt + 1, i, d + 1, _, _, _, by omega, hc, BI_add hb hi (by omega) q2 q3, by omega, by rw [show fu li cnt (bhd (h 10 (h 402 a 0)) (li i) d) i = li i by simp only [fu]; exact if_neg (by omega)], rfl, rfl, rfl, rfl⟩
  | j + 3, hI => exact hI.elim
