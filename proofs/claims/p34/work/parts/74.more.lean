/-! ===== more that always holds of the state: doors, monsters, stairs; verdicts ===== -/
def DSY (f : Int → Int) : Prop := ∀ r d, 0 ≤ r → r < 16 → 0 ≤ d → d < 4 → bt (f r) d ≠ 0 → bt (f (nb r d)) (3 - d) ≠ 0
theorem dopn_DSY {f : Int → Int} {r d : Int} (r0 : 0 ≤ r) (r1 : r < 16) (d0 : 0 ≤ d) (d1 : d < 4) (ho : DOK f) (h : DSY f) : DSY (dopn f r d) := by
  by_cases c : nb r d = -1
  · unfold dopn; rw [if_pos c]; exact h
  · intro r' d' a1 a2 a3 a4 hb
    rw [dopn_bt r0 r1 d0 d1 a3 a4 c] at hb
    rw [dopn_bt r0 r1 d0 d1 (show 0 ≤ 3 - d' by omega) (by omega) c]
    by_cases q : (r' = r ∧ d' = d) ∨ (r' = nb r d ∧ d' = 3 - d)
    · rw [if_pos]
      · decide
      · rcases q with ⟨e1, e2⟩ | ⟨e1, e2⟩
        · right; rw [e1, e2]; exact ⟨rfl, rfl⟩
        · left; rw [e1, e2]; exact ⟨nb_back r0 r1 d0 d1 c, by omega⟩
    · rw [if_neg q] at hb
      split
      · decide
      · exact h r' d' a1 a2 a3 a4 hb
theorem glD_DSY {x : Int} {f : Int → Int} (ho : DOK f) (h : DSY f) : ∀ n, DSY (glD x f n)
  | 0 => h
  | n + 1 => by
    rw [glD]
    exact dopn_DSY (by omega) (by omega) (by omega) (by omega) (glD_DOK ho n) (glD_DSY ho h n)
theorem gw_DSY {x e : Int} (hx : 0 ≤ x ∧ x < 65537) (he : 0 ≤ e ∧ e < 16) : ∀ n : Nat, n ≤ 15 → DSY (gwT x e (fun _ => 0) n).2.2
  | 0, _ => by
    intro r d r0 r1 d0 d1 hb
    exact absurd (bt_0 d0 (by omega)) hb
  | n + 1, hn => by
    obtain ⟨j, d, j0, d0, h1, h2, h3⟩ := gw_step hx he (show n < 15 by omega)
    rw [h3]
    exact dopn_DSY (gwT_r hx he n j).1 (gwT_r hx he n j).2 d0.1 d0.2 (gw_DOK hx he n (by omega)) (gw_DSY hx he n (by omega))
theorem fD_DSY {x e : Int} {R : Int → Int} (hx : 0 ≤ x ∧ x < 65537) (he : 0 ≤ e ∧ e < 16) : DSY (fD x e R) :=
  glD_DSY (gw_DOK hx he 15 (by omega)) (gw_DSY hx he 15 (by omega)) _
/-- monsters are of 0 to 9, none at the entry -/
def MOK (m : Int → Int) (e : Int) : Prop := m e = 0 ∧ ∀ r, 0 ≤ r → r < 16 → 0 ≤ m r ∧ m r < 10
theorem gm_MOK {x e s : Int} {f : Int → Int} (s0 : 1 ≤ s) (s1 : s ≤ 9) (h : MOK f e) : ∀ n, MOK (gmM x e s f n) e
  | 0 => h
  | n + 1 => by
    have ih := gm_MOK (x := x) s0 s1 h n
    have m0 := Int.emod_nonneg (xk x (2 * n + 2)) (show s ≠ 0 by omega)
    have m1 := Int.emod_lt_of_pos (xk x (2 * n + 2)) (show 0 < s by omega)
    rw [gmM]
    by_cases q : xk x (2 * n + 1) % 16 = e
    · rw [if_pos q]; exact ih
    · rw [if_neg q]
      refine ⟨?_, fun r r0 r1 => ?_⟩
      · simp only [fu]; rw [if_neg (fun q2 => q q2.symm)]; exact ih.1
      · simp only [fu]
        split
        · omega
        · exact ih.2 r r0 r1
theorem fM_MOK {x e : Int} {R : Int → Int} (h : 1 ≤ R 2 ∧ R 2 ≤ 9) : MOK (fM x e R) e :=
  gm_MOK h.1 h.2 ⟨rfl, fun _ _ _ => ⟨by show (0 : Int) ≤ 0; omega, by show (0 : Int) < 10; omega⟩⟩ _
def XG (s : sS) : Prop := ∀ d f, 0 ≤ d → d < s 11 0 0 → 0 ≤ f → f < 3 → DSY (s 14 (3 * d + f)) ∧ MOK (s 15 (3 * d + f)) (entS s d f) ∧ s 17 (3 * d + f) 0 = fmx (dst (s 14 (3 * d + f)) (entS s d f)) 15
theorem XG_dun {s : sS} (hS : SI s) (h : XG s) : XG (FDun s) := by
  have s6 := hS.2.2.2.2.2.1
  intro d g d0 d1 g0 g1
  rw [FDun_11] at d1
  by_cases q : d = s 11 0 0
  · have e : ((g.toNat : Nat) : Int) = g := Int.toNat_of_nonneg g0
    obtain ⟨n1, n2, n3, n4, n5⟩ := FDun_fn (s := s) (f := g.toNat) (by omega)
    rw [e] at n1 n2 n4 n5
    rw [q, n1, n2, n4, n5]
    obtain ⟨gx, ge⟩ := gxe_r (s := s 7 0 0) (R := tdR s) (by omega) g.toNat
    exact ⟨fD_DSY gx ge, fM_MOK (tdR_r s).2.2.1, rfl⟩
  · obtain ⟨n1, n2, n3, n4⟩ := FDun_fo (s := s) (q := 3 * d + g) (by omega)
    rw [n1, n2, n4, ent_o (by omega) g1]
    exact h d g d0 (by omega) g0 g1
theorem XG_k {s s' : sS} (hk : ∀ k, 11 ≤ k → k ≤ 17 → s' k = s k) (h : XG s) : XG s' := by
  unfold XG entS at *
  rw [hk 11 (by omega) (by omega), hk 14 (by omega) (by omega), hk 15 (by omega) (by omega), hk 17 (by omega) (by omega)]
  exact h
/-! the game of a run rests on the run and its dungeon alone -/
theorem mtk_0 {s : sS} {d key : Int} {m : Nat → Int} (e0 : m 4 = 0) (h0 : 0 ≤ m 0) (h1 : m 0 < 3) : (mtk s d m key).2 4 = 0 → 0 ≤ (mtk s d m key).2 0 ∧ (mtk s d m key).2 0 < 3 := by
  unfold mtk
  split
  · exact fun _ => ⟨h0, h1⟩
  · split
    · intro _
      have e : mcm s (3 * d + m 0) (upq m 1 (nb (m 1) key)) 0 = m 0 := by
        unfold mcm mc1
        split
        · simp [upq]
        · split <;> simp [upq]
      show 0 ≤ mcm s (3 * d + m 0) (upq m 1 (nb (m 1) key)) 0 ∧ mcm s (3 * d + m 0) (upq m 1 (nb (m 1) key)) 0 < 3
      rw [e]; exact ⟨h0, h1⟩
    · split
      · intro q
        have e4 : mdn m 4 = if m 0 + 1 = 3 then 2 else m 4 := by simp [mdn, upq]
        have e1 : mdn m 0 = m 0 + 1 := by simp [mdn, upq]
        have q' : mdn m 4 = 0 := q
        show 0 ≤ mdn m 0 ∧ mdn m 0 < 3
        rw [e1]
        rw [e4] at q'
        by_cases c : m 0 + 1 = 3
        · rw [if_pos c] at q'; exact absurd q' (by decide)
        · omega
      · intro _
        have e1 : mrs s d m 0 = m 0 := by simp [mrs, upq]
        show 0 ≤ mrs s d m 0 ∧ mrs s d m 0 < 3
        rw [e1]; exact ⟨h0, h1⟩
/-- s' has the dungeon d as s has it -/
def SMd (s s' : sS) (d : Int) : Prop := s' 13 d = s 13 d ∧ ∀ f, 0 ≤ f → f < 3 → s' 14 (3 * d + f) = s 14 (3 * d + f) ∧ s' 15 (3 * d + f) = s 15 (3 * d + f) ∧ s' 16 (3 * d + f) 0 = s 16 (3 * d + f) 0 ∧ s' 17 (3 * d + f) 0 = s 17 (3 * d + f) 0
theorem mtk_c {s s' : sS} {d key : Int} {m : Nat → Int} (h : SMd s s' d) (hm : m 4 = 0 → 0 ≤ m 0 ∧ m 0 < 3) : mtk s' d m key = mtk s d m key := by
  by_cases e0 : m 4 = 0
  · obtain ⟨a0, a1⟩ := hm e0
    obtain ⟨b14, b15, b16, b17⟩ := h.2 (m 0) a0 a1
    unfold mtk mcm mc1 mst mrs
    rw [h.1, b14, b15, b16, b17]
  · rw [mtk_no (Or.inl e0), mtk_no (Or.inl e0)]
theorem mpl_c {s s' : sS} {r : Int} (a20 : s' 20 r = s 20 r) (a23 : s' 23 r 0 = s 23 r 0) (h : SMd s s' (s 23 r 0)) : ∀ n, mpl s' r n = mpl s r n ∧ ((mpl s r n).2 4 = 0 → 0 ≤ (mpl s r n).2 0 ∧ (mpl s r n).2 0 < 3)
  | 0 => by
    refine ⟨?_, fun _ => ?_⟩
    · rw [mpl, mpl, a23]
      unfold m00
      rw [h.1]
    · show 0 ≤ m00 s (s 23 r 0) 0 ∧ m00 s (s 23 r 0) 0 < 3
      simp [m00]
  | n + 1 => by
    obtain ⟨ih1, ih2⟩ := mpl_c a20 a23 h n
    rw [mpl, mpl, ih1, a23, a20]
    generalize mpl s r n = M at ih2 ⊢
    by_cases c : M.1 ≠ -1
    · rw [if_pos c, if_pos c]; exact ⟨rfl, ih2⟩
    · rw [if_neg c, if_neg c, mtk_c h ih2]
      refine ⟨rfl, ?_⟩
      have k : (mtk s (s 23 r 0) M.2 (s 20 r n)).2 4 = 0 → 0 ≤ (mtk s (s 23 r 0) M.2 (s 20 r n)).2 0 ∧ (mtk s (s 23 r 0) M.2 (s 20 r n)).2 0 < 3 := by
        by_cases e0 : M.2 4 = 0
        · exact mtk_0 e0 (ih2 e0).1 (ih2 e0).2
        · rw [mtk_no (Or.inl e0)]; exact ih2
      split
      · exact k
      · exact k
theorem vj_c {s s' : sS} {r : Int} (a20 : s' 20 r = s 20 r) (a21 : s' 21 r 0 = s 21 r 0) (a22 : s' 22 r 0 = s 22 r 0) (a23 : s' 23 r 0 = s 23 r 0) (h : SMd s s' (s 23 r 0)) : gmS s' r = gmS s r ∧ vlJudge r s' = vlJudge r s := by
  have e : gmS s' r = gmS s r := by unfold gmS; rw [a21, (mpl_c a20 a23 h _).1]
  refine ⟨e, ?_⟩
  unfold vlJudge
  rw [e, a22]
theorem SMd_k {s s' : sS} (hk : ∀ k, 13 ≤ k → k ≤ 17 → s' k = s k) (d : Int) : SMd s s' d := by
  unfold SMd
  rw [hk 13 (by omega) (by omega), hk 14 (by omega) (by omega), hk 15 (by omega) (by omega), hk 16 (by omega) (by omega), hk 17 (by omega) (by omega)]
  exact ⟨rfl, fun _ _ _ => ⟨rfl, rfl, rfl, rfl⟩⟩
/-- a verdict is that of the judge -/
def XR (s : sS) : Prop := ∀ r, 0 ≤ r → r < s 18 0 0 → s 24 r 0 = -3 ∨ s 24 r 0 = vlJudge r s
theorem XR_k {s s' : sS} (hk : ∀ k, 11 ≤ k → k ≤ 24 → s' k = s k) (h : XR s) : XR s' := by
  intro r r0 r1
  rw [hk 18 (by omega) (by omega)] at r1
  rw [hk 24 (by omega) (by omega), (vj_c (s := s) (s' := s') (r := r) (by rw [hk 20 (by omega) (by omega)]) (by rw [hk 21 (by omega) (by omega)]) (by rw [hk 22 (by omega) (by omega)]) (by rw [hk 23 (by omega) (by omega)]) (SMd_k (fun k a b => hk k (by omega) (by omega)) _)).2]
  exact h r r0 r1
theorem XR_judge {s : sS} {j : Int} (h : XR s) : XR (FJudge j s) := by
  have ek : ∀ k, k ≠ 24 → FJudge j s k = s k := fun k h1 => us_k h1
  intro r r0 r1
  rw [ek 18 (by decide)] at r1
  rw [(vj_c (s := s) (s' := FJudge j s) (r := r) (by rw [ek 20 (by decide)]) (by rw [ek 21 (by decide)]) (by rw [ek 22 (by decide)]) (by rw [ek 23 (by decide)]) (SMd_k (fun k a b => ek k (by omega)) _)).2]
  by_cases q : r = j
  · right
    rw [q]; exact us_s
  · have e : FJudge j s 24 r 0 = s 24 r 0 := us_n (by omega)
    rw [e]; exact h r r0 r1
theorem XR_dun {s : sS} (hS : SI s) (h : XR s) : XR (FDun s) := by
  intro r r0 r1
  have f : ∀ k, 17 < k → FDun s k = s k := fun k hk => FDun_k (Or.inr hk)
  rw [f 18 (by decide)] at r1
  have s23 := (hS.2.2.2.2.2.2.2.2.2.2.2.2 r r0 r1).2.1
  have sm : SMd s (FDun s) (s 23 r 0) := ⟨(FDun_o s23.2).2, fun g g0 g1 => FDun_fo (by omega)⟩
  rw [f 24 (by decide), (vj_c (s := s) (s' := FDun s) (r := r) (by rw [f 20 (by decide)]) (by rw [f 21 (by decide)]) (by rw [f 22 (by decide)]) (by rw [f 23 (by decide)]) sm).2]
  exact h r r0 r1
theorem XR_run {s : sS} {p c d : Int} (h : XR s) : XR (FRun p c d s) := by
  obtain ⟨r18, r9, r19, r22, r23, r24, r21, r20⟩ := FRun_n (p := p) (c := c) (d := d) (s := s)
  have f : ∀ k, k ≠ 9 ∧ (k < 18 ∨ 24 < k) → FRun p c d s k = s k := fun k => FRun_k
  intro r r0 r1
  rw [r18] at r1
  by_cases q : r = s 18 0 0
  · left; rw [q]; exact r24
  · have g : ∀ k j, k ≠ 9 ∧ k ≠ 18 → FRun p c d s k r j = s k r j := fun k j hk => FRun_o q hk
    rw [g 24 0 (by decide), (vj_c (s := s) (s' := FRun p c d s) (r := r) (by funext j; exact g 20 j (by decide)) (g 21 0 (by decide)) (g 22 0 (by decide)) (g 23 0 (by decide)) (SMd_k (fun k a b => f k (by omega)) _)).2]
    exact h r r0 (by omega)
/-- what is needed is no number that stands for an exception -/
def XN (s : sS) : Prop := ∀ p, s 5 p 0 ≠ -9999999
theorem cdNeeds_0 {s : sS} {p set : Int} (hS : SI s) (hc : cdNeeds p set s = 0) : set ≠ -9999999 := by
  have ha : hasA set s := by
    unfold cdNeeds at hc
    by_cases q1 : 0 ≤ p ∧ p < s 0 0 0
    · rw [if_pos q1] at hc
      by_cases q2 : hasA set s ∧ bt set p = 0
      · exact q2.1
      · rw [if_neg q2] at hc; exact absurd hc (by decide)
    · rw [if_neg q1] at hc; exact absurd hc (by decide)
  have c := hS.1
  intro e
  rw [e] at ha
  unfold hasA at ha
  have q : s 0 0 0 = 0 ∨ s 0 0 0 = 1 ∨ s 0 0 0 = 2 ∨ s 0 0 0 = 3 ∨ s 0 0 0 = 4 ∨ s 0 0 0 = 5 ∨ s 0 0 0 = 6 ∨ s 0 0 0 = 7 ∨ s 0 0 0 = 8 ∨ s 0 0 0 = 9 ∨ s 0 0 0 = 10 := by omega
  rcases q with q | q | q | q | q | q | q | q | q | q | q <;> (rw [q] at ha; exact absurd ha (by decide))
def XI (s : sS) : Prop := SI s ∧ XG s ∧ XR s ∧ XN s
theorem XI_0 : XI (fun _ _ _ => 0) := ⟨SI_0, fun d f d0 d1 => by dsimp only at d1; omega, fun r r0 r1 => by dsimp only at r1; omega, fun p => by show (0 : Int) ≠ -9999999; decide⟩
theorem XI_k {s s' : sS} (hS : SI s') (hk : ∀ k, 11 ≤ k → k ≤ 24 → s' k = s k) (hn : XN s') (h : XI s) : XI s' := ⟨hS, XG_k (fun k a b => hk k a (by omega)) h.2.1, XR_k hk h.2.2.1, hn⟩
theorem XN_k {s s' : sS} (h5 : s' 5 = s 5) (h : XI s) : XN s' := by
  unfold XN; rw [h5]; exact h.2.2.2
theorem XI_pack {s : sS} (h : XI s) (hc : cdPack s = 0) : XI (FPack s) := XI_k (SI_pack h.1 hc) (fun k a b => us_k (by omega)) (XN_k (us_k (by decide)) h) h
theorem XI_change {s : sS} {p r b n : Int} (h : XI s) (hb : b = 0 ∨ b = 1) (hc : cdChange p r b n s = 0) : XI (FChange p r b n s) :=
  XI_k (SI_change h.1 hb hc) (fun k a b => by unfold FChange; rw [us_k (by omega), us_k (by omega), us_k (by omega), us_k (by omega)]) (XN_k (by unfold FChange; rw [us_k (by omega), us_k (by omega), us_k (by omega), us_k (by omega)]) h) h
theorem XI_mend {s : sS} {p : Int} (h : XI s) (hc : cdMend p s = 0) : XI (FMend p s) := XI_k (SI_mend h.1 hc) (fun k a b => us_k (by omega)) (XN_k (us_k (by decide)) h) h
theorem XI_needs {s : sS} {p set : Int} (h : XI s) (hc : cdNeeds p set s = 0) : XI (FNeeds p set s) := by
  refine XI_k (SI_needs h.1 hc) (fun k a b => us_k (by omega)) (fun q => ?_) h
  by_cases e : q = p
  · have e1 : FNeeds p set s 5 q 0 = set := by rw [e]; exact us_s
    rw [e1]
    exact cdNeeds_0 h.1 hc
  · have e1 : FNeeds p set s 5 q 0 = s 5 q 0 := us_n (by omega)
    rw [e1]; exact h.2.2.2 q
theorem XI_open {s : sS} {seed set : Int} (h : XI s) (hc : cdOpen seed set s = 0) : XI (FOpen seed set s) :=
  XI_k (SI_open h.1 hc) (fun k a b => by unfold FOpen; rw [us_k (by omega), us_k (by omega), us_k (by omega)]) (XN_k (by unfold FOpen; rw [us_k (by omega), us_k (by omega), us_k (by omega)]) h) h
theorem XI_key {s : sS} {c : Int} (h : XI s) (hc : cdKey c s = 0) : XI (FKey c s) :=
  XI_k (SI_key h.1 hc) (fun k a b => by unfold FKey; rw [us_k (by omega), us_k (by omega)]) (XN_k (by unfold FKey; rw [us_k (by omega), us_k (by omega)]) h) h
theorem XI_wipe {s : sS} (h : XI s) : XI (FWipe s) := XI_k (SI_wipe h.1) (fun k a b => us_k (by omega)) (XN_k (us_k (by decide)) h) h
theorem XI_judge {s : sS} {r : Int} (h : XI s) : XI (FJudge r s) := ⟨SI_judge h.1, XG_k (fun k a b => us_k (by omega)) h.2.1, XR_judge h.2.2.1, XN_k (us_k (by decide)) h⟩
theorem XI_hand {s : sS} {p c : Int} (h : XI s) (hc : cdHand p c s = 0) : XI (FHand p c s) := by
  refine ⟨SI_hand h.1 hc, ?_, ?_, ?_⟩
  · unfold FHand
    refine XG_k (s := FDR s) (fun k a b => FRun_k (by omega)) ?_
    by_cases q : tdO s ∧ tdD s = -1 ∧ s 11 0 0 < 20
    · rw [(FDR_y q).1]; exact XG_dun h.1 h.2.1
    · rw [(FDR_n q).1]; exact h.2.1
  · unfold FHand
    refine XR_run ?_
    by_cases q : tdO s ∧ tdD s = -1 ∧ s 11 0 0 < 20
    · rw [(FDR_y q).1]; exact XR_dun h.1 h.2.2.1
    · rw [(FDR_n q).1]; exact h.2.2.1
  · refine XN_k ?_ h
    show FRun p c (drD s) (FDR s) 5 = s 5
    rw [FRun_k (by omega), FDR_k (by omega)]
