/-! ===== what stays of the state when some words change ===== -/
/-- of what is there, only words in W, and int rows, may differ -/
def Aw (h h' : ac_H) (W : Nat → Bool) : Prop := ∀ (k : Nat) (y z : Int), h 0 y 0 ≠ 0 → k ≠ 10 → W k = false → h' k y z = h k y z
theorem RCi_A {h h' : ac_H} {ad : sS} {W : Nat → Bool} (hA : Aw h h' W) (hi : RCi h ad) (w0 : W 0 = false) : RCi h' ad := by
  refine ⟨hi.1, fun t i j => ?_⟩
  rcases hi.2 t i j with q | q
  · exact Or.inl q
  · right; rw [hA 0 _ 0 q (by decide) w0]; exact q
theorem RCf_A {h h' : ac_H} {x : Int} {ad : sS} {W : Nat → Bool} (hA : Aw h h' W) (hf : RCf h x ad) (w : W 0 = false ∧ W 1 = false ∧ W 900 = false ∧ W 904 = false ∧ W 906 = false ∧ W 908 = false ∧ W 910 = false ∧ W 600 = false ∧ W 602 = false ∧ W 604 = false ∧ W 700 = false) : RCf h' x ad := by
  obtain ⟨f1, f2, f3, f4, f5, f6, f7, f8, f9, f10, f11, f12, f13, f14, f15, f16, f17, f18, f19, f20, f21, f22, f23, f24, f25, f26, f27, f28, f29⟩ := hf
  obtain ⟨w0, w1, w2, w3, w4, w5, w6, w7, w8, w9, w10⟩ := w
  refine ⟨f1, f2, ?_, ?_, ?_, ?_, ?_, ?_, f9, ?_, ?_, ?_, ?_, ?_, ?_, ?_, ?_, ?_, ?_, ?_, ?_, ?_, ?_, ?_, ?_, ?_, ?_, ?_, ?_⟩
  all_goals (rw [hA _ _ _ (by omega) (by decide) (by assumption)]; assumption)
theorem RCs_A {h h' : ac_H} {x : Int} {ad s : sS} {W : Nat → Bool} (hA : Aw h h' W) (hf : RCf h x ad) (hs : RCs h x ad s) (w : W 901 = false ∧ W 902 = false ∧ W 903 = false ∧ W 905 = false ∧ W 907 = false ∧ W 909 = false ∧ W 601 = false) : RCs h' x ad s := by
  obtain ⟨f1, f2, f3, f4, f5, f6, f7, f8, f9, f10, -⟩ := hf
  obtain ⟨w1, w2, w3, w4, w5, w6, w7⟩ := w
  obtain ⟨g1, g2, g3, g4, g5, g6, g7⟩ := hs
  refine ⟨?_, ?_, ?_, ?_, ?_, ?_, ?_⟩
  all_goals (rw [hA _ _ _ (by omega) (by decide) (by assumption)]; assumption)
theorem RCp_A {h h' : ac_H} {x : Int} {ad s : sS} {W : Nat → Bool} (hA : Aw h h' W) (hf : RCf h x ad) (hp : RCp h ad s) (w : W 0 = false ∧ W 1 = false ∧ W 16 = false ∧ W 500 = false ∧ W 501 = false ∧ W 502 = false) : RCp h' ad s := by
  obtain ⟨f1, f2, f3, f4, f5, f6, f7, f8, f9, f10, f11, f12, f13, f14, -⟩ := hf
  obtain ⟨w1, w2, w3, w4, w5, w6⟩ := w
  intro p p0 p1
  obtain ⟨c1, c2, c3, c4, c5, c6, c7, c8⟩ := hp p p0 p1
  refine ⟨c1, ?_, ?_, ?_, ?_, ?_, ?_, ?_⟩
  all_goals (rw [hA _ _ _ (by omega) (by decide) (by assumption)]; assumption)
theorem RCc_A {h h' : ac_H} {ad s : sS} {W : Nat → Bool} (hA : Aw h h' W) (hp : RCp h ad s) (hc : RCc h ad s) (w : W 0 = false ∧ W 13 = false ∧ W 100 = false ∧ W 101 = false ∧ W 102 = false) : RCc h' ad s := by
  obtain ⟨w1, w2, w3, w4, w5⟩ := w
  intro p i p0 p1 i0 i1
  obtain ⟨-, -, -, -, -, -, c7, -⟩ := hp p p0 p1
  obtain ⟨d1, d2, d3, d4, d5, d6⟩ := hc p i p0 p1 i0 i1
  refine ⟨d1, ?_, ?_, ?_, ?_, ?_⟩
  all_goals (rw [hA _ _ _ (by omega) (by decide) (by assumption)]; assumption)
theorem RCg_A {h h' : ac_H} {x : Int} {ad s : sS} {W : Nat → Bool} (hA : Aw h h' W) (hf : RCf h x ad) (hg : RCg h ad s) (h10 : ∀ d, 0 ≤ d → d < s 11 0 0 → h' 10 (ad 21 d 0) = h 10 (ad 21 d 0)) (w : W 0 = false ∧ W 1 = false ∧ W 14 = false ∧ W 300 = false ∧ W 301 = false ∧ W 302 = false ∧ W 303 = false) : RCg h' ad s := by
  obtain ⟨f1, f2, f3, f4, f5, f6, f7, f8, f9, f10, f11, f12, f13, f14, f15, f16, f17, f18, f19, f20, f21, f22, -⟩ := hf
  obtain ⟨w1, w2, w3, w4, w5, w6, w7⟩ := w
  intro d d0 d1
  obtain ⟨c1, c2, c3, c4, c5, c6, c7, c8, c9, c10, c11, c12⟩ := hg d d0 d1
  refine ⟨c1, ?_, ?_, ?_, ?_, ?_, ?_, ?_, ?_, ?_, ?_, ?_⟩
  rotate_left 8
  · rw [h10 d d0 d1]; exact c10
  all_goals (rw [hA _ _ _ (by omega) (by decide) (by assumption)]; assumption)
theorem RCl_A {h h' : ac_H} {ad s : sS} {W : Nat → Bool} (hA : Aw h h' W) (hg : RCg h ad s) (hl : RCl h ad s) (h10 : ∀ d f, 0 ≤ d → d < s 11 0 0 → 0 ≤ f → f < 3 → h' 10 (ad 24 d f) = h 10 (ad 24 d f) ∧ h' 10 (ad 25 d f) = h 10 (ad 25 d f) ∧ h' 10 (ad 26 d f) = h 10 (ad 26 d f)) (w : W 0 = false ∧ W 1 = false ∧ W 15 = false ∧ W 400 = false ∧ W 401 = false ∧ W 402 = false ∧ W 403 = false ∧ W 404 = false ∧ W 405 = false ∧ W 406 = false) : RCl h' ad s := by
  obtain ⟨w1, w2, w3, w4, w5, w6, w7, w8, w9, w10⟩ := w
  intro d f d0 d1 f0 f1
  obtain ⟨-, -, -, -, -, -, -, -, -, -, c11, -⟩ := hg d d0 d1
  obtain ⟨l1, l2, l3, l4, l5, l6, l7, l8, l9, l10, l11, l12, l13, l14, l15, l16, l17, l18, l19, l20, l21⟩ := hl d f d0 d1 f0 f1
  obtain ⟨e1, e2, e3⟩ := h10 d f d0 d1 f0 f1
  refine ⟨l1, ?_, ?_, ?_, ?_, ?_, ?_, ?_, ?_, ?_, ?_, ?_, ?_, ?_, ?_, ?_, ?_, ?_, ?_, ?_, ?_⟩
  rotate_left 17
  · rw [e1]; exact l19
  · rw [e2]; exact l20
  · rw [e3]; exact l21
  all_goals (rw [hA _ _ _ (by omega) (by decide) (by assumption)]; assumption)
theorem RCr_A {h h' : ac_H} {x : Int} {ad s : sS} {W : Nat → Bool} (hA : Aw h h' W) (hf : RCf h x ad) (hr : RCr h ad s) (h10 : ∀ r, 0 ≤ r → r < s 18 0 0 → h' 10 (ad 31 r 0) = h 10 (ad 31 r 0)) (w : W 0 = false ∧ W 1 = false ∧ W 17 = false ∧ W 800 = false ∧ W 801 = false ∧ W 802 = false ∧ W 803 = false ∧ W 804 = false ∧ W 805 = false) : RCr h' ad s := by
  obtain ⟨f1, f2, f3, f4, f5, f6, f7, f8, f9, f10, f11, f12, f13, f14, f15, f16, f17, f18, f19, f20, f21, f22, f23, f24, -⟩ := hf
  obtain ⟨w1, w2, w3, w4, w5, w6, w7, w8, w9⟩ := w
  intro r r0 r1
  obtain ⟨c1, c2, c3, c4, c5, c6, c7, c8, c9, c10, c11, c12⟩ := hr r r0 r1
  refine ⟨c1, ?_, ?_, ?_, ?_, ?_, ?_, ?_, ?_, ?_, ?_, ?_⟩
  rotate_left 10
  · rw [h10 r r0 r1]; exact c12
  all_goals (rw [hA _ _ _ (by omega) (by decide) (by assumption)]; assumption)
/-- h' differs from h only in what the class owns, and has new names only for what is new -/
def FR (h h' : ac_H) (ad ad' : sS) : Prop := (∀ (k : Nat) (y z : Int), h 0 y 0 ≠ 0 → (∀ t i j, ad t i j ≠ y) → h' k y z = h k y z) ∧ ∀ t i j, ad' t i j = ad t i j ∨ h 0 (ad' t i j) 0 = 0
theorem FR_rf (h : ac_H) (ad : sS) : FR h h ad ad := ⟨fun _ _ _ _ _ => rfl, fun _ _ _ => Or.inl rfl⟩
theorem Aw_up {h : ac_H} {k0 : Nat} {a j v : Int} : Aw h (up h k0 a j v) (fun k => k == k0) := fun k y z _ _ hw => up_k (by simpa using hw)
theorem up10_o {h : ac_H} {k0 : Nat} {a j v b : Int} (e : k0 ≠ 10) : up h k0 a j v 10 b = h 10 b := up_kf (Ne.symm e)
theorem FR_up {h : ac_H} {k0 : Nat} {t : Nat} {i j z v : Int} {ad : sS} : FR h (up h k0 (ad t i j) z v) ad ad := ⟨fun k y z' _ hy => up_a (fun e => hy t i j e.symm), fun _ _ _ => Or.inl rfl⟩
theorem FR_tr {h1 h2 h3 : ac_H} {a1 a2 a3 : sS} (p : FR h1 h2 a1 a2) (q : FR h2 h3 a2 a3) (hk : ∀ y, h1 0 y 0 ≠ 0 → h2 0 y 0 ≠ 0) : FR h1 h3 a1 a3 := by
  refine ⟨fun k y z h0 hy => ?_, fun t i j => ?_⟩
  · rw [q.1 k y z (hk y h0) ?_, p.1 k y z h0 hy]
    intro t i j e
    rcases p.2 t i j with e2 | e2
    · exact hy t i j (by rw [← e2]; exact e)
    · rw [e] at e2; exact h0 e2
  · rcases q.2 t i j with e | e
    · rw [e]; exact p.2 t i j
    · right
      by_cases c : h1 0 (a3 t i j) 0 = 0
      · exact c
      · exact absurd e (hk _ c)
theorem ad_new {h : ac_H} {ad : sS} {a : Int} (hi : RCi h ad) (ha : ac_new h a) (t : Nat) (i j : Int) : ad t i j ≠ a := fun e => by
  rcases hi.2 t i j with q | q
  · rw [e] at q; have := ha.1; omega
  · rw [e] at q; exact q (ha.2 0 0)
theorem us_inj {ad : sS} {t0 : Nat} {i0 j0 a : Int} (hi : ∀ t i j t' i' j', ad t i j = ad t' i' j' → t = t' ∧ i = i' ∧ j = j') (ha : ∀ t i j, ad t i j ≠ a) : ∀ t i j t' i' j', us ad t0 i0 j0 a t i j = us ad t0 i0 j0 a t' i' j' → t = t' ∧ i = i' ∧ j = j' := by
  intro t i j t' i' j' e
  simp only [us] at e
  split at e
  · rename_i q
    split at e
    · rename_i q2
      exact ⟨by rw [q.1, q2.1], by rw [q.2.1, q2.2.1], by rw [q.2.2, q2.2.2]⟩
    · exact absurd e.symm (ha _ _ _)
  · split at e
    · exact absurd e (ha _ _ _)
    · exact hi _ _ _ _ _ _ e
