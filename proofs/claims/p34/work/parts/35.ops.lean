/-! ===== the calls that write packs, days, the draft ===== -/
def okS (h h' : ac_H) (x : Int) (ad s' : sS) : Prop := ∃ ad', RC h' x ad' s' ∧ FR h h' ad ad'
theorem RC_pack {h : ac_H} {x p c : Int} {ad s : sS} (hR : RC h x ad s) (hS : SI s) (hp : ac_new h p) (hc : ac_new h c) (hpc : p ≠ c) (hlt : s 0 0 0 < 10) {h' : ac_H}
    (e : h' = up (up (up (up (up (up h 0 p 0 24) 0 c 0 13) 1 c 0 4) 500 p 0 c) 16 (ad 2 0 0) (s 0 0 0) p) 601 (ad 1 0 0) 0 (s 0 0 0 + 1)) : okS h h' x ad (us s 0 0 0 (s 0 0 0 + 1)) := by
  obtain ⟨hi, hf, hs, hd, hpk, hch, hg, hl, hr⟩ := hR
  have n1 : ∀ t i j, ad t i j ≠ p := ad_new hi hp
  have n2 : ∀ t i j, ad t i j ≠ c := ad_new hi hc
  have hA : Aw h h' (fun k => k == 16 || k == 601) := by
    intro k y z hy _ hw
    have w1 : k ≠ 16 := by rintro rfl; simp at hw
    have w2 : k ≠ 601 := by rintro rfl; simp at hw
    have y1 := new_ne hp hy
    have y2 := new_ne hc hy
    rw [e]; simp [up, w1, w2, y1, y2]
  have h10 : ∀ t i j, h' 10 (ad t i j) = h 10 (ad t i j) := fun t i j => by
    funext z; rw [e]; simp [up]
  have e0p : h' 0 p 0 = 24 := by rw [e]; simp [up, hpc]
  have e0c : h' 0 c 0 = 13 := by rw [e]; simp [up]
  have e1c : h' 1 c 0 = 4 := by rw [e]; simp [up]
  have e5p : h' 500 p 0 = c := by rw [e]; simp [up]
  have z501 : h' 501 p 0 = 0 := by rw [e]; simp [up, hp.2]
  have z502 : h' 502 p 0 = 0 := by rw [e]; simp [up, hp.2]
  have e16 : ∀ q, h' 16 (ad 2 0 0) q = if q = s 0 0 0 then p else h 16 (ad 2 0 0) q := fun q => by rw [e]; simp [up]
  have e601 : h' 601 (ad 1 0 0) 0 = s 0 0 0 + 1 := by rw [e]; simp [up]
  refine ⟨us (us ad 10 (s 0 0 0) 0 p) 11 (s 0 0 0) 0 c, ⟨⟨us_inj (us_inj hi.1 n1) ?_, ?_⟩, ?_, ?_, ?_, ?_, ?_, ?_, ?_, ?_⟩, ?_, ?_⟩
  · intro t i j; simp only [us]; split
    · exact hpc
    · exact n2 t i j
  · intro t i j; simp only [us]; split
    · right; rw [e0c]; decide
    · split
      · right; rw [e0p]; decide
      · exact (RCi_A hA hi rfl).2 t i j
  · have := RCf_A hA hf ⟨rfl, rfl, rfl, rfl, rfl, rfl, rfl, rfl, rfl, rfl, rfl⟩
    simp only [RCf, us_k, uf_k, ne_eq, Nat.reduceEqDiff, not_false_eq_true] at this ⊢
    exact this
  · obtain ⟨f1, f2, f3, f4, f5, f6, f7, f8, f9, f10, -⟩ := hf
    obtain ⟨g1, g2, g3, g4, g5, g6, g7⟩ := hs
    simp only [RCs, us_k, uf_k, ne_eq, Nat.reduceEqDiff, not_false_eq_true, us_s, e601, and_true]
    refine ⟨?_, ?_, ?_, ?_, ?_, ?_⟩
    all_goals (rw [hA _ _ _ (by omega) (by decide) (by rfl)]; assumption)
  · simp only [RCd, us_k, uf_k, ne_eq, Nat.reduceEqDiff, not_false_eq_true, h10] at hd ⊢
    exact hd
  · obtain ⟨f1, f2, f3, f4, f5, f6, f7, f8, f9, f10, f11, f12, f13, f14, -⟩ := id hf
    intro q q0 q1
    rw [us_s] at q1
    simp only [us_k, uf_k, ne_eq, Nat.reduceEqDiff, not_false_eq_true]
    by_cases eq : q = s 0 0 0
    · subst eq
      have z := hS.2.2.1 (s 0 0 0) (Int.le_refl _) hlt
      simp only [us_s, us_k, uf_k, ne_eq, Nat.reduceEqDiff, not_false_eq_true, e16, if_true, e0p, e5p, e0c, e1c, z501, z502, z.1, z.2, and_true]
      exact hp.1
    · obtain ⟨c1, c2, c3, c4, c5, c6, c7, c8⟩ := hpk q q0 (by omega)
      rw [us_n (by omega), us_n (by omega), e16, if_neg eq]
      simp only [us_k, uf_k, ne_eq, Nat.reduceEqDiff, not_false_eq_true]
      refine ⟨c1, c2, ?_, ?_, ?_, ?_, ?_, ?_⟩
      all_goals (rw [hA _ _ _ (by omega) (by decide) (by rfl)]; assumption)
  · have := RCc_A hA hpk hch ⟨rfl, rfl, rfl, rfl, rfl⟩
    intro q i q0 q1 i0 i1
    rw [us_s] at q1
    simp only [us_k, uf_k, ne_eq, Nat.reduceEqDiff, not_false_eq_true] at i1 ⊢
    by_cases eq : q = s 0 0 0
    · have z := hS.2.2.1 (s 0 0 0) (Int.le_refl _) hlt
      rw [eq, z.1] at i1
      omega
    · rw [us_n (by omega)]
      simp only [us_k, uf_k, ne_eq, Nat.reduceEqDiff, not_false_eq_true]
      exact this q i q0 (by omega) i0 i1
  · have := RCg_A hA hf hg (fun d _ _ => h10 _ _ _) ⟨rfl, rfl, rfl, rfl, rfl, rfl, rfl⟩
    simp only [RCg, us_k, uf_k, ne_eq, Nat.reduceEqDiff, not_false_eq_true] at this ⊢
    exact this
  · have := RCl_A hA hg hl (fun d f _ _ _ _ => ⟨h10 _ _ _, h10 _ _ _, h10 _ _ _⟩) ⟨rfl, rfl, rfl, rfl, rfl, rfl, rfl, rfl, rfl, rfl⟩
    simp only [RCl, entS, us_k, uf_k, ne_eq, Nat.reduceEqDiff, not_false_eq_true] at this ⊢
    exact this
  · have := RCr_A hA hf hr (fun r _ _ => h10 _ _ _) ⟨rfl, rfl, rfl, rfl, rfl, rfl, rfl, rfl, rfl⟩
    simp only [RCr, us_k, uf_k, ne_eq, Nat.reduceEqDiff, not_false_eq_true] at this ⊢
    exact this
  · intro k y z hy hn
    have y1 := new_ne hp hy
    have y2 := new_ne hc hy
    have y3 := hn 2 0 0
    have y4 := hn 1 0 0
    rw [e]; simp [up, y1, y2, Ne.symm y3, Ne.symm y4]
  · intro t i j
    simp only [us]
    split
    · right; exact hc.2 0 0
    · split
      · right; exact hp.2 0 0
      · left; rfl
theorem RC_num {h : ac_H} {x v : Int} {ad s : sS} {k0 K : Nat} (hR : RC h x ad s) (hk : (k0 = 901 ∧ K = 6) ∨ (k0 = 902 ∧ K = 7) ∨ (k0 = 903 ∧ K = 8)) : RC (up h k0 x 0 v) x ad (us s K 0 0 v) := by
  obtain ⟨hi, hf, hs, hd, hpk, hch, hg, hl, hr⟩ := hR
  have hA : Aw h (up h k0 x 0 v) (fun k => k == k0) := Aw_up
  have n10 : k0 ≠ 10 := by omega
  have W : ∀ k : Nat, k ≠ k0 → (k == k0) = false := fun k e => by simpa using e
  refine ⟨RCi_A hA hi (W _ (by omega)), RCf_A hA hf ⟨W _ (by omega), W _ (by omega), W _ (by omega), W _ (by omega), W _ (by omega), W _ (by omega), W _ (by omega), W _ (by omega), W _ (by omega), W _ (by omega), W _ (by omega)⟩, ?_, ?_, ?_, ?_, ?_, ?_, ?_⟩
  · rcases hk with ⟨rfl, rfl⟩ | ⟨rfl, rfl⟩ | ⟨rfl, rfl⟩
    all_goals
      simp only [RCs, us_k, uf_k, ne_eq, Nat.reduceEqDiff, not_false_eq_true, us_s, up_self, up_k, ast_k, up_kf, ast_kf, ne_eq, Nat.reduceEqDiff, not_false_eq_true] at hs ⊢
      simp only [hs, and_self]
  · simp only [RCd, us_k (show 9 ≠ K by omega), us_k (show 10 ≠ K by omega), up10_o n10] at hd ⊢
    exact hd
  · have := RCp_A hA hf hpk ⟨W _ (by omega), W _ (by omega), W _ (by omega), W _ (by omega), W _ (by omega), W _ (by omega)⟩
    simp only [RCp, us_k (show 0 ≠ K by omega), us_k (show 1 ≠ K by omega), us_k (show 5 ≠ K by omega)] at this ⊢
    exact this
  · have := RCc_A hA hpk hch ⟨W _ (by omega), W _ (by omega), W _ (by omega), W _ (by omega), W _ (by omega)⟩
    simp only [RCc, us_k (show 0 ≠ K by omega), us_k (show 1 ≠ K by omega), us_k (show 2 ≠ K by omega), us_k (show 3 ≠ K by omega), us_k (show 4 ≠ K by omega)] at this ⊢
    exact this
  · have := RCg_A hA hf hg (fun d _ _ => up10_o n10) ⟨W _ (by omega), W _ (by omega), W _ (by omega), W _ (by omega), W _ (by omega), W _ (by omega), W _ (by omega)⟩
    simp only [RCg, us_k (show 11 ≠ K by omega), us_k (show 12 ≠ K by omega), us_k (show 13 ≠ K by omega)] at this ⊢
    exact this
  · have := RCl_A hA hg hl (fun d f _ _ _ _ => ⟨up10_o n10, up10_o n10, up10_o n10⟩) ⟨W _ (by omega), W _ (by omega), W _ (by omega), W _ (by omega), W _ (by omega), W _ (by omega), W _ (by omega), W _ (by omega), W _ (by omega), W _ (by omega)⟩
    simp only [RCl, entS, us_k (show 11 ≠ K by omega), us_k (show 14 ≠ K by omega), us_k (show 15 ≠ K by omega), us_k (show 16 ≠ K by omega), us_k (show 17 ≠ K by omega)] at this ⊢
    exact this
  · have := RCr_A hA hf hr (fun r _ _ => up10_o n10) ⟨W _ (by omega), W _ (by omega), W _ (by omega), W _ (by omega), W _ (by omega), W _ (by omega), W _ (by omega), W _ (by omega), W _ (by omega)⟩
    simp only [RCr, us_k (show 18 ≠ K by omega), us_k (show 19 ≠ K by omega), us_k (show 20 ≠ K by omega), us_k (show 21 ≠ K by omega), us_k (show 22 ≠ K by omega), us_k (show 23 ≠ K by omega), us_k (show 24 ≠ K by omega)] at this ⊢
    exact this
theorem RC_501 {h : ac_H} {x p v : Int} {ad s : sS} (hR : RC h x ad s) (p0 : 0 ≤ p) (p1 : p < s 0 0 0) (v1 : v ≤ s 1 p 0) : RC (up h 501 (ad 10 p 0) 0 v) x ad (us s 1 p 0 v) := by
  obtain ⟨hi, hf, hs, hd, hpk, hch, hg, hl, hr⟩ := hR
  have hA : Aw h (up h 501 (ad 10 p 0) 0 v) (fun k => k == 501) := Aw_up
  have n10 : (501 : Nat) ≠ 10 := by omega
  refine ⟨RCi_A hA hi rfl, RCf_A hA hf ⟨rfl, rfl, rfl, rfl, rfl, rfl, rfl, rfl, rfl, rfl, rfl⟩, ?_, ?_, ?_, ?_, ?_, ?_, ?_⟩
  · have := RCs_A hA hf hs ⟨rfl, rfl, rfl, rfl, rfl, rfl, rfl⟩
    simp only [RCs, us_k, uf_k, ne_eq, Nat.reduceEqDiff, not_false_eq_true] at this ⊢
    exact this
  · simp only [RCd, us_k, uf_k, ne_eq, Nat.reduceEqDiff, not_false_eq_true, up10_o n10] at hd ⊢
    exact hd
  · intro q q0 q1
    simp only [us_k, uf_k, ne_eq, Nat.reduceEqDiff, not_false_eq_true] at q1 ⊢
    obtain ⟨c1, c2, c3, c4, c5, c6, c7, c8⟩ := hpk q q0 q1
    refine ⟨c1, c2, c3, c4, ?_, c6, c7, c8⟩
    by_cases e : q = p
    · subst e; rw [up_self, us_s]
    · rw [up_a (fun q2 => e (hi.1 _ _ _ _ _ _ q2).2.1), us_n (by omega)]; exact c5
  · have := RCc_A hA hpk hch ⟨rfl, rfl, rfl, rfl, rfl⟩
    intro q i q0 q1 i0 i1
    simp only [us_k, uf_k, ne_eq, Nat.reduceEqDiff, not_false_eq_true] at q1 i1 ⊢
    refine this q i q0 q1 i0 ?_
    by_cases e : q = p
    · subst e; rw [us_s] at i1; omega
    · rw [us_n (by omega)] at i1; exact i1
  · have := RCg_A hA hf hg (fun d _ _ => up10_o n10) ⟨rfl, rfl, rfl, rfl, rfl, rfl, rfl⟩
    simp only [RCg, us_k, uf_k, ne_eq, Nat.reduceEqDiff, not_false_eq_true] at this ⊢
    exact this
  · have := RCl_A hA hg hl (fun d f _ _ _ _ => ⟨up10_o n10, up10_o n10, up10_o n10⟩) ⟨rfl, rfl, rfl, rfl, rfl, rfl, rfl, rfl, rfl, rfl⟩
    simp only [RCl, entS, us_k, uf_k, ne_eq, Nat.reduceEqDiff, not_false_eq_true] at this ⊢
    exact this
  · have := RCr_A hA hf hr (fun r _ _ => up10_o n10) ⟨rfl, rfl, rfl, rfl, rfl, rfl, rfl, rfl, rfl⟩
    simp only [RCr, us_k, uf_k, ne_eq, Nat.reduceEqDiff, not_false_eq_true] at this ⊢
    exact this
theorem RC_502 {h : ac_H} {x p v : Int} {ad s : sS} (hR : RC h x ad s) : RC (up h 502 (ad 10 p 0) 0 v) x ad (us s 5 p 0 v) := by
  obtain ⟨hi, hf, hs, hd, hpk, hch, hg, hl, hr⟩ := hR
  have hA : Aw h (up h 502 (ad 10 p 0) 0 v) (fun k => k == 502) := Aw_up
  have n10 : (502 : Nat) ≠ 10 := by omega
  refine ⟨RCi_A hA hi rfl, RCf_A hA hf ⟨rfl, rfl, rfl, rfl, rfl, rfl, rfl, rfl, rfl, rfl, rfl⟩, ?_, ?_, ?_, ?_, ?_, ?_, ?_⟩
  · have := RCs_A hA hf hs ⟨rfl, rfl, rfl, rfl, rfl, rfl, rfl⟩
    simp only [RCs, us_k, uf_k, ne_eq, Nat.reduceEqDiff, not_false_eq_true] at this ⊢
    exact this
  · simp only [RCd, us_k, uf_k, ne_eq, Nat.reduceEqDiff, not_false_eq_true, up10_o n10] at hd ⊢
    exact hd
  · intro q q0 q1
    simp only [us_k, uf_k, ne_eq, Nat.reduceEqDiff, not_false_eq_true] at q1 ⊢
    obtain ⟨c1, c2, c3, c4, c5, c6, c7, c8⟩ := hpk q q0 q1
    refine ⟨c1, c2, c3, c4, c5, ?_, c7, c8⟩
    by_cases e : q = p
    · subst e; rw [up_self, us_s]
    · rw [up_a (fun q2 => e (hi.1 _ _ _ _ _ _ q2).2.1), us_n (by omega)]; exact c6
  · have := RCc_A hA hpk hch ⟨rfl, rfl, rfl, rfl, rfl⟩
    simp only [RCc, us_k, uf_k, ne_eq, Nat.reduceEqDiff, not_false_eq_true] at this ⊢
    exact this
  · have := RCg_A hA hf hg (fun d _ _ => up10_o n10) ⟨rfl, rfl, rfl, rfl, rfl, rfl, rfl⟩
    simp only [RCg, us_k, uf_k, ne_eq, Nat.reduceEqDiff, not_false_eq_true] at this ⊢
    exact this
  · have := RCl_A hA hg hl (fun d f _ _ _ _ => ⟨up10_o n10, up10_o n10, up10_o n10⟩) ⟨rfl, rfl, rfl, rfl, rfl, rfl, rfl, rfl, rfl, rfl⟩
    simp only [RCl, entS, us_k, uf_k, ne_eq, Nat.reduceEqDiff, not_false_eq_true] at this ⊢
    exact this
  · have := RCr_A hA hf hr (fun r _ _ => up10_o n10) ⟨rfl, rfl, rfl, rfl, rfl, rfl, rfl, rfl, rfl⟩
    simp only [RCr, us_k, uf_k, ne_eq, Nat.reduceEqDiff, not_false_eq_true] at this ⊢
    exact this
theorem RC_805 {h : ac_H} {x p v : Int} {ad s : sS} (hR : RC h x ad s) : RC (up h 805 (ad 30 p 0) 0 v) x ad (us s 24 p 0 v) := by
  obtain ⟨hi, hf, hs, hd, hpk, hch, hg, hl, hr⟩ := hR
  have hA : Aw h (up h 805 (ad 30 p 0) 0 v) (fun k => k == 805) := Aw_up
  have n10 : (805 : Nat) ≠ 10 := by omega
  refine ⟨RCi_A hA hi rfl, RCf_A hA hf ⟨rfl, rfl, rfl, rfl, rfl, rfl, rfl, rfl, rfl, rfl, rfl⟩, ?_, ?_, ?_, ?_, ?_, ?_, ?_⟩
  · have := RCs_A hA hf hs ⟨rfl, rfl, rfl, rfl, rfl, rfl, rfl⟩
    simp only [RCs, us_k, uf_k, ne_eq, Nat.reduceEqDiff, not_false_eq_true] at this ⊢
    exact this
  · simp only [RCd, us_k, uf_k, ne_eq, Nat.reduceEqDiff, not_false_eq_true, up10_o n10] at hd ⊢
    exact hd
  · have := RCp_A hA hf hpk ⟨rfl, rfl, rfl, rfl, rfl, rfl⟩
    simp only [RCp, us_k, uf_k, ne_eq, Nat.reduceEqDiff, not_false_eq_true] at this ⊢
    exact this
  · have := RCc_A hA hpk hch ⟨rfl, rfl, rfl, rfl, rfl⟩
    simp only [RCc, us_k, uf_k, ne_eq, Nat.reduceEqDiff, not_false_eq_true] at this ⊢
    exact this
  · have := RCg_A hA hf hg (fun d _ _ => up10_o n10) ⟨rfl, rfl, rfl, rfl, rfl, rfl, rfl⟩
    simp only [RCg, us_k, uf_k, ne_eq, Nat.reduceEqDiff, not_false_eq_true] at this ⊢
    exact this
  · have := RCl_A hA hg hl (fun d f _ _ _ _ => ⟨up10_o n10, up10_o n10, up10_o n10⟩) ⟨rfl, rfl, rfl, rfl, rfl, rfl, rfl, rfl, rfl, rfl⟩
    simp only [RCl, entS, us_k, uf_k, ne_eq, Nat.reduceEqDiff, not_false_eq_true] at this ⊢
    exact this
  · intro q q0 q1
    simp only [us_k, uf_k, ne_eq, Nat.reduceEqDiff, not_false_eq_true] at q1 ⊢
    obtain ⟨c1, c2, c3, c4, c5, c6, c7, c8, c9, c10, c11, c12⟩ := hr q q0 q1
    refine ⟨c1, c2, c3, c4, c5, c6, c7, c8, ?_, c10, c11, fun k k0 k1 => by rw [up10_o n10]; exact c12 k k0 k1⟩
    by_cases e : q = p
    · subst e; rw [up_self, us_s]
    · rw [up_a (fun q2 => e (hi.1 _ _ _ _ _ _ q2).2.1), us_n (by omega)]; exact c9
theorem RC_905 {h : ac_H} {x v : Int} {ad s : sS} (hR : RC h x ad s) (hd' : ∀ j, 0 ≤ j → j < v → h 10 (ad 5 0 0) j = s 10 0 j) : RC (up h 905 x 0 v) x ad (us s 9 0 0 v) := by
  obtain ⟨hi, hf, hs, hd, hpk, hch, hg, hl, hr⟩ := hR
  have hA : Aw h (up h 905 x 0 v) (fun k => k == 905) := Aw_up
  have n10 : (905 : Nat) ≠ 10 := by omega
  refine ⟨RCi_A hA hi rfl, RCf_A hA hf ⟨rfl, rfl, rfl, rfl, rfl, rfl, rfl, rfl, rfl, rfl, rfl⟩, ?_, ?_, ?_, ?_, ?_, ?_, ?_⟩
  · simp only [RCs, us_k, uf_k, ne_eq, Nat.reduceEqDiff, not_false_eq_true, us_s, up_self, up_k, ast_k, up_kf, ast_kf, ne_eq, Nat.reduceEqDiff, not_false_eq_true] at hs ⊢
    simp only [hs, and_self]
  · simp only [RCd, us_k, uf_k, ne_eq, Nat.reduceEqDiff, not_false_eq_true, us_s, up10_o n10]
    exact hd'
  · have := RCp_A hA hf hpk ⟨rfl, rfl, rfl, rfl, rfl, rfl⟩
    simp only [RCp, us_k, uf_k, ne_eq, Nat.reduceEqDiff, not_false_eq_true] at this ⊢
    exact this
  · have := RCc_A hA hpk hch ⟨rfl, rfl, rfl, rfl, rfl⟩
    simp only [RCc, us_k, uf_k, ne_eq, Nat.reduceEqDiff, not_false_eq_true] at this ⊢
    exact this
  · have := RCg_A hA hf hg (fun d _ _ => up10_o n10) ⟨rfl, rfl, rfl, rfl, rfl, rfl, rfl⟩
    simp only [RCg, us_k, uf_k, ne_eq, Nat.reduceEqDiff, not_false_eq_true] at this ⊢
    exact this
  · have := RCl_A hA hg hl (fun d f _ _ _ _ => ⟨up10_o n10, up10_o n10, up10_o n10⟩) ⟨rfl, rfl, rfl, rfl, rfl, rfl, rfl, rfl, rfl, rfl⟩
    simp only [RCl, entS, us_k, uf_k, ne_eq, Nat.reduceEqDiff, not_false_eq_true] at this ⊢
    exact this
  · have := RCr_A hA hf hr (fun r _ _ => up10_o n10) ⟨rfl, rfl, rfl, rfl, rfl, rfl, rfl, rfl, rfl⟩
    simp only [RCr, us_k, uf_k, ne_eq, Nat.reduceEqDiff, not_false_eq_true] at this ⊢
    exact this
/-- a key more at place n, where the draft ends -/
theorem RC_draft {h : ac_H} {x v : Int} {ad s : sS} (hR : RC h x ad s) : RC (up h 10 (ad 5 0 0) (s 9 0 0) v) x ad (us s 10 0 (s 9 0 0) v) := by
  obtain ⟨hi, hf, hs, hd, hpk, hch, hg, hl, hr⟩ := hR
  have hA : Aw h (up h 10 (ad 5 0 0) (s 9 0 0) v) (fun _ => false) := fun k y z _ hk _ => up_k hk
  have h10 : ∀ (t : Nat) (i j : Int), t ≠ 5 → up h 10 (ad 5 0 0) (s 9 0 0) v 10 (ad t i j) = h 10 (ad t i j) := fun t i j ht => by
    funext z; exact up_a (fun e => ht (hi.1 _ _ _ _ _ _ e).1)
  refine ⟨RCi_A hA hi rfl, RCf_A hA hf ⟨rfl, rfl, rfl, rfl, rfl, rfl, rfl, rfl, rfl, rfl, rfl⟩, ?_, ?_, ?_, ?_, ?_, ?_, ?_⟩
  · have := RCs_A hA hf hs ⟨rfl, rfl, rfl, rfl, rfl, rfl, rfl⟩
    simp only [RCs, us_k, uf_k, ne_eq, Nat.reduceEqDiff, not_false_eq_true] at this ⊢
    exact this
  · intro j j0 j1
    simp only [us_k, uf_k, ne_eq, Nat.reduceEqDiff, not_false_eq_true] at j1
    rw [up_j (by omega), us_n (by omega)]
    exact hd j j0 j1
  · have := RCp_A hA hf hpk ⟨rfl, rfl, rfl, rfl, rfl, rfl⟩
    simp only [RCp, us_k, uf_k, ne_eq, Nat.reduceEqDiff, not_false_eq_true] at this ⊢
    exact this
  · have := RCc_A hA hpk hch ⟨rfl, rfl, rfl, rfl, rfl⟩
    simp only [RCc, us_k, uf_k, ne_eq, Nat.reduceEqDiff, not_false_eq_true] at this ⊢
    exact this
  · have := RCg_A hA hf hg (fun d _ _ => h10 _ _ _ (by omega)) ⟨rfl, rfl, rfl, rfl, rfl, rfl, rfl⟩
    simp only [RCg, us_k, uf_k, ne_eq, Nat.reduceEqDiff, not_false_eq_true] at this ⊢
    exact this
  · have := RCl_A hA hg hl (fun d f _ _ _ _ => ⟨h10 _ _ _ (by omega), h10 _ _ _ (by omega), h10 _ _ _ (by omega)⟩) ⟨rfl, rfl, rfl, rfl, rfl, rfl, rfl, rfl, rfl, rfl⟩
    simp only [RCl, entS, us_k, uf_k, ne_eq, Nat.reduceEqDiff, not_false_eq_true] at this ⊢
    exact this
  · have := RCr_A hA hf hr (fun r _ _ => h10 _ _ _ (by omega)) ⟨rfl, rfl, rfl, rfl, rfl, rfl, rfl, rfl, rfl⟩
    simp only [RCr, us_k, uf_k, ne_eq, Nat.reduceEqDiff, not_false_eq_true] at this ⊢
    exact this
theorem RC_chg {h : ac_H} {x p c r b n : Int} {ad s : sS} (hR : RC h x ad s) (hc : ac_new h c) (p0 : 0 ≤ p) (p1 : p < s 0 0 0) (z0 : 0 ≤ s 1 p 0) {h' : ac_H}
    (e : h' = up (up (up (up (up (up h 0 c 0 20) 100 c 0 r) 101 c 0 b) 102 c 0 n) 13 (ad 11 p 0) (s 1 p 0) c) 501 (ad 10 p 0) 0 (s 1 p 0 + 1)) : okS h h' x ad (us (us (us (us s 2 p (s 1 p 0) r) 3 p (s 1 p 0) b) 4 p (s 1 p 0) n) 1 p 0 (s 1 p 0 + 1)) := by
  obtain ⟨hi, hf, hs, hd, hpk, hch, hg, hl, hr⟩ := hR
  have n1 : ∀ t i j, ad t i j ≠ c := ad_new hi hc
  have hA : Aw h h' (fun k => k == 13 || k == 501) := by
    intro k y z hy _ hw
    have w1 : k ≠ 13 := by rintro rfl; simp at hw
    have w2 : k ≠ 501 := by rintro rfl; simp at hw
    have y2 := new_ne hc hy
    rw [e]; simp [up, w1, w2, y2]
  have h10 : ∀ t i j, h' 10 (ad t i j) = h 10 (ad t i j) := fun t i j => by
    funext z; rw [e]; simp [up]
  have e0c : h' 0 c 0 = 20 := by rw [e]; simp [up]
  have x100 : h' 100 c 0 = r := by rw [e]; simp [up]
  have x101 : h' 101 c 0 = b := by rw [e]; simp [up]
  have x102 : h' 102 c 0 = n := by rw [e]; simp [up]
  have e13 : ∀ q i, h' 13 (ad 11 q 0) i = if q = p ∧ i = s 1 p 0 then c else h 13 (ad 11 q 0) i := fun q i => by
    rw [e, up_k (by decide)]
    simp only [up]
    by_cases c1 : q = p
    · subst c1
      by_cases c2 : i = s 1 q 0
      · simp [c2]
      · simp [c2]
    · have : ad 11 q 0 ≠ ad 11 p 0 := fun q2 => c1 (hi.1 _ _ _ _ _ _ q2).2.1
      simp [c1, this]
  have e501 : ∀ q, h' 501 (ad 10 q 0) 0 = if q = p then s 1 p 0 + 1 else h 501 (ad 10 q 0) 0 := fun q => by
    rw [e]
    by_cases c1 : q = p
    · subst c1; rw [up_self, if_pos rfl]
    · rw [up_a (fun q2 => c1 (hi.1 _ _ _ _ _ _ q2).2.1), if_neg c1]
      simp [up]
  refine ⟨us ad 12 p (s 1 p 0) c, ⟨⟨us_inj hi.1 n1, ?_⟩, ?_, ?_, ?_, ?_, ?_, ?_, ?_, ?_⟩, ?_, ?_⟩
  · intro t i j; simp only [us]; split
    · right; rw [e0c]; decide
    · exact (RCi_A hA hi rfl).2 t i j
  · have := RCf_A hA hf ⟨rfl, rfl, rfl, rfl, rfl, rfl, rfl, rfl, rfl, rfl, rfl⟩
    simp only [RCf, us_k, uf_k, ne_eq, Nat.reduceEqDiff, not_false_eq_true] at this ⊢
    exact this
  · have := RCs_A hA hf hs ⟨rfl, rfl, rfl, rfl, rfl, rfl, rfl⟩
    simp only [RCs, us_k, uf_k, ne_eq, Nat.reduceEqDiff, not_false_eq_true] at this ⊢
    exact this
  · simp only [RCd, us_k, uf_k, ne_eq, Nat.reduceEqDiff, not_false_eq_true, h10] at hd ⊢
    exact hd
  · intro q q0 q1
    simp only [us_k, uf_k, ne_eq, Nat.reduceEqDiff, not_false_eq_true] at q1 ⊢
    obtain ⟨c1, c2, c3, c4, c5, c6, c7, c8⟩ := hpk q q0 q1
    have W : ∀ k y z, h 0 y 0 ≠ 0 → k ≠ 10 → k ≠ 13 → k ≠ 501 → h' k y z = h k y z := fun k y z a1 a2 a3 a4 => hA k y z a1 a2 (by simp [a3, a4])
    refine ⟨c1, ?_, ?_, ?_, ?_, ?_, ?_, ?_⟩
    · rw [W 16 _ _ (by have := hf.2.2.2.2.2.2.2.2.2.2.2.2.2.1; omega) (by omega) (by omega) (by omega)]; exact c2
    · rw [W 0 _ _ (by omega) (by omega) (by omega) (by omega)]; exact c3
    · rw [W 500 _ _ (by omega) (by omega) (by omega) (by omega)]; exact c4
    · rw [e501]
      by_cases c : q = p
      · subst c; rw [if_pos rfl, us_s]
      · rw [if_neg c, us_n (by omega)]; simp only [us_k, uf_k, ne_eq, Nat.reduceEqDiff, not_false_eq_true]; exact c5
    · rw [W 502 _ _ (by omega) (by omega) (by omega) (by omega)]; exact c6
    · rw [W 0 _ _ (by omega) (by omega) (by omega) (by omega)]; exact c7
    · rw [W 1 _ _ (by omega) (by omega) (by omega) (by omega)]; exact c8
  · intro q i q0 q1 i0 i1
    simp only [us_k, uf_k, ne_eq, Nat.reduceEqDiff, not_false_eq_true] at q1 ⊢
    have W : ∀ k y z, h 0 y 0 ≠ 0 → k ≠ 10 → k ≠ 13 → k ≠ 501 → h' k y z = h k y z := fun k y z a1 a2 a3 a4 => hA k y z a1 a2 (by simp [a3, a4])
    by_cases cc : q = p ∧ i = s 1 p 0
    · obtain ⟨rfl, rfl⟩ := cc
      rw [e13, if_pos ⟨rfl, rfl⟩]
      simp only [us_s, us_k, uf_k, ne_eq, Nat.reduceEqDiff, not_false_eq_true, e0c, x100, x101, x102, and_true]
      exact hc.1
    · have i2 : i < s 1 q 0 := by
        by_cases c1 : q = p
        · subst c1; rw [us_s] at i1; have : i ≠ s 1 q 0 := fun q2 => cc ⟨rfl, q2⟩; omega
        · rw [us_n (by omega)] at i1; simp only [us_k, uf_k, ne_eq, Nat.reduceEqDiff, not_false_eq_true] at i1; exact i1
      obtain ⟨d1, d2, d3, d4, d5, d6⟩ := hch q i q0 q1 i0 i2
      rw [e13, if_neg cc, us_n cc, us_n cc, us_n cc, us_n cc]
      simp only [us_k, uf_k, ne_eq, Nat.reduceEqDiff, not_false_eq_true]
      refine ⟨d1, d2, ?_, ?_, ?_, ?_⟩
      all_goals (rw [W _ _ _ (by omega) (by omega) (by omega) (by omega)]; assumption)
  · have := RCg_A hA hf hg (fun d _ _ => h10 _ _ _) ⟨rfl, rfl, rfl, rfl, rfl, rfl, rfl⟩
    simp only [RCg, us_k, uf_k, ne_eq, Nat.reduceEqDiff, not_false_eq_true] at this ⊢
    exact this
  · have := RCl_A hA hg hl (fun d f _ _ _ _ => ⟨h10 _ _ _, h10 _ _ _, h10 _ _ _⟩) ⟨rfl, rfl, rfl, rfl, rfl, rfl, rfl, rfl, rfl, rfl⟩
    simp only [RCl, entS, us_k, uf_k, ne_eq, Nat.reduceEqDiff, not_false_eq_true] at this ⊢
    exact this
  · have := RCr_A hA hf hr (fun r _ _ => h10 _ _ _) ⟨rfl, rfl, rfl, rfl, rfl, rfl, rfl, rfl, rfl⟩
    simp only [RCr, us_k, uf_k, ne_eq, Nat.reduceEqDiff, not_false_eq_true] at this ⊢
    exact this
  · intro k y z hy hn
    have y2 := new_ne hc hy
    have y3 := hn 11 p 0
    have y4 := hn 10 p 0
    rw [e]; simp [up, y2, Ne.symm y3, Ne.symm y4]
  · intro t i j
    simp only [us]
    split
    · right; exact hc.2 0 0
    · left; rfl
