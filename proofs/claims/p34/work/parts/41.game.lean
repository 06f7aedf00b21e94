/-! ===== the game by the state: 0 floor, 1 room, 2 health, 3 score, 4 end, 5 fought, 6 taken ===== -/
def mst (s : sS) (q : Int) (m : Nat → Int) : Int := if bt (m 5) (m 1) = 1 then 0 else s 15 q (m 1)
def mc1 (s : sS) (q : Int) (m : Nat → Int) : Nat → Int := upq (upq (upq m 2 (wr (m 2 - mst s q m))) 3 (wr (m 3 + mst s q m))) 5 (ior (m 5) (ishl 1 (m 1)))
def mcm (s : sS) (q : Int) (m : Nat → Int) : Nat → Int := if mc1 s q m 2 ≤ 0 then upq (mc1 s q m) 4 1 else if bt (s 16 q 0) (m 1) = 1 ∧ bt (m 6) (m 1) = 0 then upq (upq (mc1 s q m) 6 (ior (m 6) (ishl 1 (m 1)))) 3 (wr (mc1 s q m 3 + 5)) else mc1 s q m
def mdn (m : Nat → Int) : Nat → Int := upq (upq (upq (upq (upq m 0 (m 0 + 1)) 5 0) 6 0) 4 (if m 0 + 1 = 3 then 2 else m 4)) 3 (wr (m 3 + (if m 0 + 1 = 3 then 20 else 0)))
def mrs (s : sS) (d : Int) (m : Nat → Int) : Nat → Int := upq (upq m 2 (if s 13 d 4 < wr (m 2 + s 13 d 5) then s 13 d 4 else wr (m 2 + s 13 d 5))) 3 (wr (m 3 - 1))
def mtk (s : sS) (d : Int) (m : Nat → Int) (key : Int) : Int × (Nat → Int) :=
  if m 4 ≠ 0 ∨ (key = 4 ∧ m 1 ≠ s 17 (3 * d + m 0) 0) ∨ (key < 4 ∧ bt (s 14 (3 * d + m 0) (m 1)) key = 0) then (0, m)
  else if key < 4 then (1, mcm s (3 * d + m 0) (upq m 1 (nb (m 1) key))) else if key = 4 then (1, mdn m) else (1, mrs s d m)
def m00 (s : sS) (d : Int) : Nat → Int := fun k => if k = 2 then s 13 d 4 else 0
def mpl (s : sS) (r : Int) : Nat → Int × (Nat → Int)
  | 0 => (-1, m00 s (s 23 r 0))
  | n + 1 => if (mpl s r n).1 ≠ -1 then mpl s r n else if (mtk s (s 23 r 0) (mpl s r n).2 (s 20 r n)).1 = 0 then (n, (mtk s (s 23 r 0) (mpl s r n).2 (s 20 r n)).2) else (-1, (mtk s (s 23 r 0) (mpl s r n).2 (s 20 r n)).2)
def gmS (s : sS) (r : Int) : Int × (Nat → Int) := mpl s r (s 21 r 0).toNat
/-- the data of dungeon number d at address D -/
def GD (h : ac_H) (s : sS) (D d : Int) : Prop := rul h D 4 = s 13 d 4 ∧ rul h D 5 = s 13 d 5 ∧ ∀ f, 0 ≤ f → f < 3 → h 10 (h 402 (flr h D f) 0) = s 14 (3 * d + f) ∧ h 10 (h 403 (flr h D f) 0) = s 15 (3 * d + f) ∧ h 404 (flr h D f) 0 = s 16 (3 * d + f) 0 ∧ h 401 (flr h D f) 0 = s 17 (3 * d + f) 0 ∧ h 400 (flr h D f) 0 = entS s d f ∧ DOK (s 14 (3 * d + f))
def SIM (s : sS) (d : Int) (T : (Nat → Int) × (Int → Int)) (m : Nat → Int) : Prop := T.1 704 = m 1 ∧ T.1 705 = m 2 ∧ T.1 706 = m 3 ∧ T.1 707 = m 4 ∧ (0 ≤ m 1 ∧ m 1 < 16) ∧ wr (m 3) = m 3 ∧
  (m 4 = 0 → T.1 703 = m 0 ∧ (0 ≤ m 0 ∧ m 0 < 3) ∧ (∀ r, 0 ≤ r → r < 16 → T.2 r = if bt (m 5) r = 1 then 0 else s 15 (3 * d + m 0) r) ∧ ∀ r, 0 ≤ r → r < 16 → bt (T.1 701) r = if bt (m 6) r = 1 then 0 else bt (s 16 (3 * d + m 0) 0) r)
theorem wr_wr (z : Int) : wr (wr z) = wr z := wr_eq (ac_wrr z)
theorem upq_s {q : Nat → Int} {k : Nat} {v : Int} : upq q k v k = v := if_pos rfl
theorem upq_n {q : Nat → Int} {k k' : Nat} {v : Int} (e : k' ≠ k) : upq q k v k' = q k' := if_neg e
theorem fgS_1 {S : (Nat → Int) × (Int → Int)} : (fgS S).1 705 = wr (S.1 705 - S.2 (S.1 704)) ∧ (fgS S).1 706 = wr (S.1 706 + S.2 (S.1 704)) ∧ (fgS S).1 704 = S.1 704 ∧ (fgS S).1 703 = S.1 703 ∧ (fgS S).1 701 = S.1 701 ∧ (fgS S).1 707 = (if 0 < wr (S.1 705 - S.2 (S.1 704)) then S.1 707 else 1) ∧ (fgS S).2 = fu S.2 (S.1 704) 0 := by
  have e : upq (upq S.1 705 (wr (S.1 705 - S.2 (S.1 704)))) 706 (wr (S.1 706 + S.2 (S.1 704))) 705 = wr (S.1 705 - S.2 (S.1 704)) := by simp [upq]
  unfold fgS
  simp only [e]
  by_cases q : 0 < wr (S.1 705 - S.2 (S.1 704))
  · simp only [if_pos q]; simp [upq]
  · simp only [if_neg q]; simp [upq]
theorem mtk_no {s : sS} {d key : Int} {m : Nat → Int} (c : m 4 ≠ 0 ∨ (key = 4 ∧ m 1 ≠ s 17 (3 * d + m 0) 0) ∨ (key < 4 ∧ bt (s 14 (3 * d + m 0) (m 1)) key = 0)) : mtk s d m key = (0, m) := by unfold mtk; rw [if_pos c]
theorem mtk_go {s : sS} {d key : Int} {m : Nat → Int} (e0 : m 4 = 0) (k : key < 4) (c : ¬ bt (s 14 (3 * d + m 0) (m 1)) key = 0) : mtk s d m key = (1, mcm s (3 * d + m 0) (upq m 1 (nb (m 1) key))) := by
  unfold mtk; rw [if_neg (by omega), if_pos k]
theorem mtk_dn {s : sS} {d : Int} {m : Nat → Int} (e0 : m 4 = 0) (c : m 1 = s 17 (3 * d + m 0) 0) : mtk s d m 4 = (1, mdn m) := by
  unfold mtk; rw [if_neg (by omega), if_neg (by omega), if_pos rfl]
theorem mtk_rs {s : sS} {d : Int} {m : Nat → Int} (e0 : m 4 = 0) : mtk s d m 5 = (1, mrs s d m) := by
  unfold mtk; rw [if_neg (by omega), if_neg (by omega), if_neg (by omega)]
theorem sim_step {h : ac_H} {s : sS} {D d key : Int} {T : (Nat → Int) × (Int → Int)} {m : Nat → Int} (hd : GD h s D d) (hs : SIM s d T m) (k0 : 0 ≤ key) (k1 : key < 6) : (tkS h D T key).1 = (mtk s d m key).1 ∧ SIM s d (tkS h D T key).2 (mtk s d m key).2 := by
  obtain ⟨t1, t2, t3, t4, t5, t6, t7⟩ := id hs
  by_cases e0 : m 4 = 0
  case neg =>
    have hT : tkS h D T key = (0, T) := by unfold tkS; rw [t4, if_neg e0]
    rw [hT, mtk_no (Or.inl e0)]; exact ⟨rfl, hs⟩
  obtain ⟨u1, u2, u3, u4⟩ := t7 e0
  obtain ⟨g1, g2, g3⟩ := hd
  obtain ⟨x1, x2, x3, x4, x5, x6⟩ := g3 (m 0) u2.1 u2.2
  by_cases e4 : key = 4
  · subst e4
    have hT : tkS h D T 4 = gdS h D T := by unfold tkS; rw [t4, if_pos e0, if_pos rfl]
    rw [hT]
    unfold gdS
    rw [u1, x4, t1]
    by_cases c : m 1 = s 17 (3 * d + m 0) 0
    case neg => rw [if_neg c, mtk_no (Or.inr (Or.inl ⟨rfl, c⟩))]; exact ⟨rfl, hs⟩
    rw [if_pos c, mtk_dn e0 c]
    by_cases c3 : 3 ≤ m 0 + 1
    · have c4 : m 0 + 1 = 3 := by omega
      rw [if_pos c3]
      refine ⟨rfl, ?_⟩
      unfold mdn
      rw [if_pos c4, if_pos c4]
      refine ⟨?_, ?_, ?_, ?_, ?_, ?_, ?_⟩
      · simp [upq, t1]
      · simp [upq, t2]
      · simp [upq, t3]
      · simp [upq]
      · simpa [upq] using t5
      · simp [upq, wr_wr]
      · intro q; simp [upq] at q
    · have c4 : ¬ m 0 + 1 = 3 := by omega
      rw [if_neg c3]
      refine ⟨rfl, ?_⟩
      obtain ⟨y1, y2, y3, y4, y5, y6⟩ := g3 (m 0 + 1) (by omega) (by omega)
      have en : entS s d (m 0 + 1) = m 1 := by
        unfold entS
        rw [if_neg (by omega), show 3 * d + (m 0 + 1) - 1 = 3 * d + m 0 by omega]; exact c.symm
      unfold mdn enS
      rw [if_neg c4, if_neg c4, y5, y3, y2, en, Int.add_zero, t6]
      refine ⟨?_, ?_, ?_, ?_, ?_, ?_, ?_⟩
      · simp [upq]
      · simp [upq, t2]
      · simp [upq, t3]
      · simp [upq, t4]
      · simpa [upq] using t5
      · simp [upq, t6]
      · intro _
        refine ⟨by simp [upq], by simp [upq]; omega, fun r r0 r1 => ?_, fun r r0 r1 => ?_⟩
        · simp only [upq, Nat.reduceEqDiff, if_true, if_false]
          rw [bt_0 r0 (by omega), if_neg (show ¬ (0 : Int) = 1 by decide), if_pos (show 0 ≤ r ∧ r < 16 from ⟨r0, r1⟩)]
        · simp only [upq, Nat.reduceEqDiff, if_true, if_false]
          rw [bt_0 r0 (by omega), if_neg (by decide)]
  · by_cases e5 : key = 5
    · subst e5
      have hT : tkS h D T 5 = (1, (upq (upq T.1 705 (if s 13 d 4 < wr (m 2 + s 13 d 5) then s 13 d 4 else wr (m 2 + s 13 d 5))) 706 (wr (m 3 + -1)), T.2)) := by
        unfold tkS; rw [t4, if_pos e0, if_neg (by decide), if_pos rfl, g1, g2, t2, t3]
      rw [hT, mtk_rs e0]
      refine ⟨rfl, ?_⟩
      unfold mrs
      refine ⟨?_, ?_, ?_, ?_, ?_, ?_, ?_⟩
      · simp [upq, t1]
      · simp [upq]
      · simp [upq]; rfl
      · simp [upq, t4]
      · simpa [upq] using t5
      · simp [upq, wr_wr]
      · intro _
        refine ⟨by simp [upq, u1], by simp [upq]; omega, fun r r0 r1 => ?_, fun r r0 r1 => ?_⟩
        · simp only [upq, Nat.reduceEqDiff, if_false]; exact u3 r r0 r1
        · simp only [upq, Nat.reduceEqDiff, if_false]; exact u4 r r0 r1
    · have k4 : key < 4 := by omega
      have hT : tkS h D T key = goS h D T key := by unfold tkS; rw [t4, if_pos e0, if_neg e4, if_neg e5]
      rw [hT]
      unfold goS
      rw [u1, x1, t1]
      by_cases c : bt (s 14 (3 * d + m 0) (m 1)) key = 0
      · have cb : bhd (s 14 (3 * d + m 0)) (m 1) key = -1 := by rw [bhd, if_pos c]
        rw [if_pos cb, mtk_no (Or.inr (Or.inr ⟨k4, c⟩))]
        exact ⟨rfl, hs⟩
      · have cn := x6 (m 1) key t5.1 t5.2 k0 k4 c
        have cb : bhd (s 14 (3 * d + m 0)) (m 1) key = nb (m 1) key := by rw [bhd, if_neg c]
        rw [cb, if_neg cn, mtk_go e0 k4 c]
        refine ⟨rfl, ?_⟩
        have nr := (nb_r (d := key) t5.1 t5.2).resolve_left cn
        generalize nb (m 1) key = n at *
        have b5 := bt_01 (b := m 5) nr.1 (show n < 32 by omega)
        have b6 := bt_01 (b := m 6) nr.1 (show n < 32 by omega)
        have b16 := bt_01 (b := s 16 (3 * d + m 0) 0) nr.1 (show n < 32 by omega)
        obtain ⟨v1, v2, v3, v4, v5, v6, v7⟩ := fgS_1 (S := (upq T.1 704 n, T.2))
        simp only [upq, Nat.reduceEqDiff, if_true, if_false] at v1 v2 v3 v4 v5 v6 v7
        have st : T.2 n = mst s (3 * d + m 0) (upq m 1 n) := by
          unfold mst
          rw [upq_s, upq_n (by decide)]
          exact u3 n nr.1 nr.2
        have c1 : mc1 s (3 * d + m 0) (upq m 1 n) 2 = wr (m 2 - T.2 n) := by unfold mc1; rw [← st]; simp [upq]
        have c2 : mc1 s (3 * d + m 0) (upq m 1 n) 3 = wr (m 3 + T.2 n) := by unfold mc1; rw [← st]; simp [upq]
        have c3 : mc1 s (3 * d + m 0) (upq m 1 n) 5 = ior (m 5) (ishl 1 n) := by unfold mc1; simp [upq]
        have c4 : mc1 s (3 * d + m 0) (upq m 1 n) 1 = n := by unfold mc1; simp [upq]
        have c5 : mc1 s (3 * d + m 0) (upq m 1 n) 0 = m 0 := by unfold mc1; simp [upq]
        have c6 : mc1 s (3 * d + m 0) (upq m 1 n) 4 = m 4 := by unfold mc1; simp [upq]
        have c7 : mc1 s (3 * d + m 0) (upq m 1 n) 6 = m 6 := by unfold mc1; simp [upq]
        rw [t2] at v1 v6
        rw [t3] at v2
        rw [t4, e0] at v6
        rw [u1] at v4
        dsimp only
        generalize hF : fgS (upq T.1 704 n, T.2) = F at v1 v2 v3 v4 v5 v6 v7 ⊢
        generalize hM : mc1 s (3 * d + m 0) (upq m 1 n) = M at c1 c2 c3 c4 c5 c6 c7
        have fo : ∀ r, 0 ≤ r → r < 16 → F.2 r = if bt (M 5) r = 1 then 0 else s 15 (3 * d + m 0) r := by
          intro r r0 r1
          rw [v7, c3, bt_set nr.1 (by omega) r0 (by omega)]
          simp only [fu]
          by_cases q : r = n
          · rw [if_pos q, if_pos q, if_pos rfl]
          · rw [if_neg q, if_neg q]; exact u3 r r0 r1
        unfold mcm
        rw [hM, c1]
        by_cases l : wr (m 2 - T.2 n) ≤ 0
        · rw [if_pos l]
          rw [if_neg (by omega)] at v6
          rw [if_pos v6]
          refine ⟨?_, ?_, ?_, ?_, ?_, ?_, ?_⟩
          · rw [v3, upq_n (by decide), c4]
          · rw [v1, upq_n (by decide), c1]
          · rw [v2, upq_n (by decide), c2]
          · rw [v6, upq_s]
          · rw [upq_n (by decide), c4]; exact nr
          · rw [upq_n (by decide), c2, wr_wr]
          · intro q; rw [upq_s] at q; exact absurd q (by decide)
        · rw [if_neg l]
          rw [if_pos (by omega)] at v6
          rw [if_neg (by omega), upq_s, upq_n (show (6 : Nat) ≠ 1 by decide)]
          have u4n := u4 n nr.1 nr.2
          unfold ttS
          rw [v5, v3, v2]
          by_cases tk : bt (s 16 (3 * d + m 0) 0) n = 1 ∧ bt (m 6) n = 0
          · rw [if_neg (by rw [if_neg (by omega)] at u4n; omega), if_pos tk, c2]
            refine ⟨?_, ?_, ?_, ?_, ?_, ?_, ?_⟩
            · simp only [upq, Nat.reduceEqDiff, if_false]; rw [v3, c4]
            · simp only [upq, Nat.reduceEqDiff, if_false]; rw [v1, c1]
            · simp only [upq, Nat.reduceEqDiff, if_true]
            · simp only [upq, Nat.reduceEqDiff, if_false]; rw [v6, c6, e0]
            · simp only [upq, Nat.reduceEqDiff, if_false]; rw [c4]; exact nr
            · simp only [upq, Nat.reduceEqDiff, if_true]; rw [wr_wr]
            · intro _
              simp only [upq, Nat.reduceEqDiff, if_true, if_false]
              rw [c5, v4]
              refine ⟨rfl, u2, fo, fun r r0 r1 => ?_⟩
              rw [bt_clr nr.1 (by omega) r0 (by omega), bt_set nr.1 (by omega) r0 (by omega), u4 r r0 r1]
              by_cases q : r = n
              · rw [if_pos q, if_pos q, if_pos rfl]
              · rw [if_neg q, if_neg q]
          · rw [if_pos (by rw [u4n]; split <;> omega), if_neg tk]
            refine ⟨by rw [v3, c4], by rw [v1, c1], by rw [v2, c2], by rw [v6, c6, e0], by rw [c4]; exact nr, by rw [c2, wr_wr], fun _ => ?_⟩
            rw [c5, v4, c7]
            refine ⟨rfl, u2, fo, fun r r0 r1 => ?_⟩
            rw [v5]; exact u4 r r0 r1
theorem tk_708 {h : ac_H} {D key : Int} {T : (Nat → Int) × (Int → Int)} : (tkS h D T key).2.1 708 = T.1 708 := by
  have f : ∀ S : (Nat → Int) × (Int → Int), (fgS S).1 708 = S.1 708 := fun S => by
    show (if _ then _ else _ : Nat → Int) 708 = _
    split <;> simp [upq]
  have g : ∀ S : (Nat → Int) × (Int → Int), (ttS S).1 708 = S.1 708 := fun S => by
    unfold ttS; split <;> simp [upq]
  unfold tkS gdS goS enS
  split
  · split
    · split
      · split <;> simp [upq]
      · rfl
    · split
      · simp [upq]
      · split
        · rfl
        · dsimp only
          split
          · rw [f]; simp [upq]
          · rw [g, f]; simp [upq]
  · rfl
theorem mtk_01 {s : sS} {d key : Int} {m : Nat → Int} : (mtk s d m key).1 = 0 ∨ (mtk s d m key).1 = 1 := by
  unfold mtk
  split
  · exact Or.inl rfl
  · split
    · exact Or.inr rfl
    · split <;> exact Or.inr rfl
theorem SIM_708 {s : sS} {d v : Int} {T : (Nat → Int) × (Int → Int)} {m : Nat → Int} (h : SIM s d T m) : SIM s d (upq T.1 708 v, T.2) m := by
  unfold SIM at h ⊢
  simp only [upq, Nat.reduceEqDiff, if_false]
  exact h
theorem sim_play {h : ac_H} {s : sS} {D r : Int} {K : Int → Int} {S : (Nat → Int) × (Int → Int)} (hd : GD h s D (s 23 r 0)) (h0 : SIM s (s 23 r 0) S (m00 s (s 23 r 0))) (z : S.1 708 = 0) {len : Nat} (hl : len ≤ 60) (hK : ∀ k : Nat, k < len → K k = s 20 r k ∧ 0 ≤ s 20 r k ∧ s 20 r k < 6) :
    ∀ n : Nat, n ≤ len → SIM s (s 23 r 0) (plS h D K S n).2 (mpl s r n).2 ∧ (((plS h D K S n).1 = 1 ∧ (mpl s r n).1 = -1 ∧ (plS h D K S n).2.1 708 = n) ∨ ((plS h D K S n).1 = 0 ∧ 0 ≤ (mpl s r n).1 ∧ (mpl s r n).1 < n ∧ (plS h D K S n).2.1 708 = (mpl s r n).1))
  | 0, _ => ⟨h0, Or.inl ⟨rfl, rfl, z⟩⟩
  | n + 1, hn => by
    obtain ⟨i1, i2⟩ := sim_play hd h0 z hl hK n (by omega)
    obtain ⟨k1, k2, k3⟩ := hK n (by omega)
    rcases i2 with ⟨a1, a2, a3⟩ | ⟨a1, a2, a3, a4⟩
    · have st := sim_step (key := K n) hd i1 (by rw [k1]; exact k2) (by rw [k1]; exact k3)
      have t708 := tk_708 (h := h) (D := D) (key := K n) (T := (plS h D K S n).2)
      have nP : ¬ (plS h D K S n).1 = 0 := by omega
      have nM : ¬ (mpl s r n).1 ≠ -1 := by omega
      rcases mtk_01 (s := s) (d := s 23 r 0) (m := (mpl s r n).2) (key := K n) with e | e
      · have e2 : (tkS h D (plS h D K S n).2 (K n)).1 = 0 := by rw [st.1, e]
        have hP : plS h D K S (n + 1) = (0, (tkS h D (plS h D K S n).2 (K n)).2) := by rw [plS, if_neg nP, if_pos e2]
        have hM : mpl s r (n + 1) = ((n : Int), (mtk s (s 23 r 0) (mpl s r n).2 (K n)).2) := by rw [mpl, if_neg nM, ← k1, if_pos e]
        rw [hP, hM]
        refine ⟨st.2, Or.inr ⟨rfl, by show (0 : Int) ≤ n; omega, by show (n : Int) < ((n + 1 : Nat) : Int); omega, ?_⟩⟩
        show (tkS h D (plS h D K S n).2 (K n)).2.1 708 = n
        rw [t708, a3]
      · have e2 : (tkS h D (plS h D K S n).2 (K n)).1 = 1 := by rw [st.1, e]
        have hP : plS h D K S (n + 1) = (1, (upq (tkS h D (plS h D K S n).2 (K n)).2.1 708 (wr ((tkS h D (plS h D K S n).2 (K n)).2.1 708 + 1)), (tkS h D (plS h D K S n).2 (K n)).2.2)) := by rw [plS, if_neg nP, if_neg (by omega)]
        have hM : mpl s r (n + 1) = (-1, (mtk s (s 23 r 0) (mpl s r n).2 (K n)).2) := by rw [mpl, if_neg nM, ← k1, if_neg (by omega)]
        rw [hP, hM]
        refine ⟨SIM_708 st.2, Or.inl ⟨rfl, rfl, ?_⟩⟩
        show upq (tkS h D (plS h D K S n).2 (K n)).2.1 708 (wr ((tkS h D (plS h D K S n).2 (K n)).2.1 708 + 1)) 708 = ((n + 1 : Nat) : Int)
        rw [upq_s, t708, a3, wr_of (by omega) (by omega)]
        rfl
    · have hP : plS h D K S (n + 1) = plS h D K S n := by rw [plS, if_pos a1]
      have hM : mpl s r (n + 1) = mpl s r n := by rw [mpl, if_pos (by omega)]
      rw [hP, hM]
      exact ⟨i1, Or.inr ⟨a1, a2, by omega, a4⟩⟩
theorem RC_GM {h : ac_H} {x d : Int} {ad s : sS} (hR : RC h x ad s) (hS : SI s) (d0 : 0 ≤ d) (d1 : d < s 11 0 0) : h 910 x 0 = ad 8 0 0 ∧ h 700 (ad 8 0 0) 0 = ad 9 0 0 ∧ GMk h (ad 8 0 0) (ad 20 d 0) ∧ GD h s (ad 20 d 0) d ∧ ∀ i, 0 ≤ i → i < 6 → rul h (ad 20 d 0) i = s 13 d i := by
  have fl := fun f f0 f1 => RC_fl hR hS d0 d1 (f := f) f0 f1
  obtain ⟨f1, f2, f3, f4, f5, f6, f7, f8, f9, f10, f11, f12, f13, f14, f15, f16, f17, f18, f19, f20, f21, f22, f23, f24, f25, f26, f27, f28, f29⟩ := hR.2.1
  obtain ⟨x1, x2, x3, x4, x5, x6, x7, x8, x9, x10, x11, x12⟩ := hR.2.2.2.2.2.2.1 d d0 d1
  have ne : ∀ (t : Nat) (i j : Int), t ≠ 9 → ad t i j ≠ ad 9 0 0 := fun t i j ht q => ht (hR.1.1 _ _ _ _ _ _ q).1
  have ru : ∀ i, 0 ≤ i → i < 6 → rul h (ad 20 d 0) i = s 13 d i := fun i i0 i1 => by unfold rul; rw [x6]; exact x10 i i0 i1
  have sr := hS.2.2.2.2.2.2.2.2.2.1 d d0 d1
  refine ⟨f8, f27, ⟨⟨f26, by rw [f27]; exact f28, by rw [f27]; exact f29⟩, ⟨x3, by rw [x6]; exact x8, by rw [x6]; exact x9, ?_⟩, by rw [x6, f27]; exact ne _ _ _ (by decide), by rw [x7]; exact x11, by rw [x7]; exact x12, fun f f0 f1 => ?_⟩, ⟨ru 4 (by omega) (by omega), ru 5 (by omega) (by omega), fun f f0 f1 => ?_⟩, ru⟩
  · rw [ru 0 (by omega) (by omega), ru 1 (by omega) (by omega), ru 2 (by omega) (by omega), ru 3 (by omega) (by omega), ru 4 (by omega) (by omega), ru 5 (by omega) (by omega)]
    exact sr.2
  · obtain ⟨m1, m2, m3, m4, m5, m6, m7, m8, m9, m10, m11, m12, m13, m14⟩ := fl f f0 f1
    have s17 := (hS.2.2.2.2.2.2.2.2.2.2.1 d f d0 d1 f0 f1).2
    rw [m2, m8, m9, f27, m6]
    exact ⟨m3, m4, ne _ _ _ (by decide), ne _ _ _ (by decide), s17.1, s17.2.1⟩
  · obtain ⟨m1, m2, m3, m4, m5, m6, m7, m8, m9, m10, m11, m12, m13, m14⟩ := fl f f0 f1
    have s17 := (hS.2.2.2.2.2.2.2.2.2.2.1 d f d0 d1 f0 f1).2
    rw [m2, m8, m9, m7, m6, m5]
    exact ⟨m12, m13, rfl, rfl, rfl, s17.2.2⟩
theorem SIM_0 {h : ac_H} {s : sS} {D d : Int} {S : (Nat → Int) × (Int → Int)} (hd : GD h s D d) : SIM s d (plI h D S) (m00 s d) ∧ (plI h D S).1 708 = 0 := by
  obtain ⟨g1, g2, g3⟩ := hd
  obtain ⟨x1, x2, x3, x4, x5, x6⟩ := g3 0 (by omega) (by omega)
  have en : entS s d 0 = 0 := by unfold entS; rw [if_pos rfl]
  refine ⟨?_, by simp [plI, enS, upq]⟩
  unfold plI enS
  rw [x5, x3, x2, en, g1]
  refine ⟨by simp [upq, m00], by simp [upq, m00], by simp [upq, m00], by simp [upq, m00], by simp [m00], ?_, fun _ => ⟨by simp [upq, m00], by simp [m00], fun r r0 r1 => ?_, fun r r0 r1 => ?_⟩⟩
  · show wr 0 = 0
    exact wr_of (by decide) (by decide)
  · simp only [m00, Nat.reduceEqDiff, if_false]
    rw [bt_0 r0 (by omega), if_neg (show ¬ (0 : Int) = 1 by decide), if_pos (show 0 ≤ r ∧ r < 16 from ⟨r0, r1⟩)]
  · simp only [m00, upq, Nat.reduceEqDiff, if_false, if_true]
    rw [bt_0 r0 (by omega), if_neg (by decide)]
/-- the heap after run r was played -/
def plH (h : ac_H) (P R : Int) : ac_H := rp h P (plS h (h 803 R 0) (h 10 (h 804 R 0)) (plI h (h 803 R 0) (rs h P)) (h 1 (h 804 R 0) 0).toNat).2
theorem RC_play {h : ac_H} {x r : Int} {ad s : sS} (hR : RC h x ad s) (hS : SI s) (r0 : 0 ≤ r) (r1 : r < h 909 x 0) : (h 0 (ad 30 r 0) 0 = 27 ∧ GMk h (h 910 x 0) (h 803 (ad 30 r 0) 0) ∧ h 0 (h 804 (ad 30 r 0) 0) 0 = 10 ∧ 0 ≤ h 1 (h 804 (ad 30 r 0) 0) 0 ∧ h 1 (h 804 (ad 30 r 0) 0) 0 ≤ 60 ∧ h 804 (ad 30 r 0) 0 ≠ h 700 (h 910 x 0) 0) ∧
    plH h (h 910 x 0) (ad 30 r 0) 706 (h 910 x 0) 0 = (gmS s r).2 3 ∧ plH h (h 910 x 0) (ad 30 r 0) 707 (h 910 x 0) 0 = (gmS s r).2 4 ∧ plH h (h 910 x 0) (ad 30 r 0) 708 (h 910 x 0) 0 = (if (gmS s r).1 = -1 then s 21 r 0 else (gmS s r).1) ∧ ((gmS s r).1 = -1 ∨ (0 ≤ (gmS s r).1 ∧ (gmS s r).1 < s 21 r 0)) ∧ RC (plH h (h 910 x 0) (ad 30 r 0)) x ad s ∧ FR h (plH h (h 910 x 0) (ad 30 r 0)) ad ad := by
  obtain ⟨r2, e1, e2, e3, e4, e5, e6, e7, e8, e9, e10, e11, e12, e13, e14, e15, e16⟩ := RC_rn hR hS r0 r1
  obtain ⟨g1, g2, g3, g4, g5⟩ := RC_GM hR hS e14.1 e14.2
  have sr := hS.2.2.2.2.2.2.2.2.2.2.2.2 r r0 r2
  obtain ⟨c1, c2⟩ := SIM_0 (S := rs h (ad 8 0 0)) g4
  have sp := sim_play g4 c1 c2 (len := (s 21 r 0).toNat) (by omega) (K := h 10 (ad 31 r 0)) (fun k hk => ⟨e13 k (by omega) (by omega), sr.2.2.1 k (by omega) (by omega)⟩) (s 21 r 0).toNat (Nat.le_refl _)
  have e9' : h 804 (ad 30 r 0) 0 ≠ h 700 (h 910 x 0) 0 := by
    rw [e9, g1, g2]; intro q; exact absurd (hR.1.1 _ _ _ _ _ _ q).1 (by decide)
  refine ⟨⟨e4, by rw [g1, e8]; exact g3, by rw [e9]; exact e11, by rw [e9, e12]; exact sr.1.1, by rw [e9, e12]; exact sr.1.2, e9'⟩, ?_, ?_, ?_, ?_, ?_, ?_⟩
  · unfold plH
    rw [rp_q (by omega) (by omega), g1, e8, e9, e12]
    exact sp.1.2.2.1
  · unfold plH
    rw [rp_q (by omega) (by omega), g1, e8, e9, e12]
    exact sp.1.2.2.2.1
  · unfold plH
    rw [rp_q (by omega) (by omega), g1, e8, e9, e12]
    rcases sp.2 with ⟨a1, a2, a3⟩ | ⟨a1, a2, a3, a4⟩
    · have a2' : (gmS s r).1 = -1 := a2
      rw [a3, if_pos a2']; omega
    · have a2' : ¬ (gmS s r).1 = -1 := by show ¬ (mpl s r _).1 = -1; omega
      rw [a4, if_neg a2']; rfl
  · rcases sp.2 with ⟨a1, a2, a3⟩ | ⟨a1, a2, a3, a4⟩
    · exact Or.inl a2
    · exact Or.inr ⟨a2, by have : (mpl s r (s 21 r 0).toNat).1 < ((s 21 r 0).toNat : Int) := a3; show (mpl s r _).1 < _; omega⟩
  · unfold plH; rw [g1]; exact RC_rp hR
  · refine ⟨fun k y z hy hn => ?_, fun _ _ _ => Or.inl rfl⟩
    unfold plH
    rw [g1]
    simp only [rp]
    rw [if_neg (fun q => hn 8 0 0 q.1.symm), if_neg (fun q => hn 9 0 0 (by rw [q.2, g2]))]
def spX8_scoreOf : ac_Sp := sc_RI (fun x r h => CW h x) (fun x r h v h' => OKc x h h' v (cdRun r) (fun s => (gmS s r).2 3) id) (fun x r h E h' => EXc x h h' E (cdRun r) (fun _ => "java/lang/IndexOutOfBoundsException"))
set_option maxRecDepth 100000 in
set_option maxHeartbeats 4000000 in
theorem mtX8_scoreOf {G : ac_G} {l : Launch} : ac_Met G l yX8_scoreOf mX8_scoreOf 7 117 1 6 spX8_scoreOf := by
  refine ac_meth1 (pcs := pcX8_scoreOf) (B := fun P X J j => vcX8_scoreOf spX8_existingRun spX6_play P X J j) (by decide) rfl rfl rfl (fun P X J hJ j => sdX8_scoreOf mtX8_existingRun mtX6_play P X J hJ j) (hp_RI (by decide)) fun As h hp => ?_
  obtain ⟨x, r, rfl, hp⟩ := sh_RI_inv hp
  simp only [spX8_scoreOf, vcX8_scoreOf, mX8_scoreOf, spX8_existingRun, spX6_play, sc_RI, sh_RI, ac_ent, ldI, ldR, stI, stR, inc, cI, cJ, cN, bop, oAdd, oSub, oMul, oAnd, oOr, oXor, oShl, oShr, oUshr, oRem, oDiv, oMx, oMn, oI2l, oLcmp, oDup, oDup2, oDupX1, oPop, bIc, bI0, bNul, getI, getR, putI, putZ, putR, aLen, aldI, aldZ, aldJ, aldR, astI, astZ, astJ, astR, nwO, nwA, gsT, oObj, oCpy, oCln, oCst, rtI, rtZ, rtR, rtV, thr, call, callH, ac_hsel, ac_as, ac_rs, ac_cs, ac_rcv, List.map_cons, List.map_nil, List.length_cons, List.length_nil, List.replicate, List.append_nil, List.cons_append, List.nil_append, List.getElem?_cons_zero, List.getElem?_cons_succ, List.set, Nat.zero_add, Nat.add_zero, Nat.le_refl, Nat.reduceAdd, Nat.reduceSub, Nat.reduceLeDiff, Int.reduceLT, Int.reduceLE, Int.reduceNeg, Int.reduceEq, true_and, and_true, true_or, or_true, not_true_eq_false, not_false_eq_true, false_implies, true_implies, implies_true, reduceIte, and_self, Int.reduceAdd, Int.reduceMul, Int.reduceSub, eq_self, Int.add_zero, Int.zero_add, String.reduceEq, Nat.zero_le, Option.some.injEq, Sum.inl.injEq, Sum.inr.injEq, reduceCtorEq, Int.reduceToNat, Option.toList_some, Option.toList_none, ac_cs, ac_c10, ac_c11, ac_c12, ac_c13, ac_c14, ac_c15, ac_c16, ac_c17, sc_E, sh_E, sc_I, sh_I, sc_II, sh_II, sc_III, sh_III, sc_R, sh_R, sc_RI, sh_RI, sc_RII, sh_RII, sc_RIII, sh_RIII, sc_RIIII, sh_RIIII, sc_RR, sh_RR, sc_RRI, sh_RRI, sc_RRR, sh_RRR, sc_RIR, sh_RIR, sc_RIRI, sh_RIRI, sc_RRII, sh_RRII, sc_RRIII, sh_RRIII, sc_RIIRR, sh_RIIRR, sc_RIIIRR, sh_RIIIRR, sc_RIIR, sh_RIIR, sc_RRIIR, sh_RRIIR, sc_RRIIIR, sh_RRIIIR, sc_RRIIIIR, sh_RRIIIIR, sc_RRIR, sh_RRIR]
  have hC : CW h x := hp
  obtain ⟨ad, s, hR, hS⟩ := hp
  have h1 : h 0 x 0 = 28 := hR.2.1.2.2.1
  have h26 : h 0 (h 910 x 0) 0 = 26 := by rw [hR.2.1.2.2.2.2.2.2.2.1]; exact hR.2.1.2.2.2.2.2.2.2.2.2.2.2.2.2.2.2.2.2.2.2.2.2.2.2.2.2.1
  simp only [h1, hC, ac_ent, ldI, ldR, stI, stR, inc, cI, cJ, cN, bop, oAdd, oSub, oMul, oAnd, oOr, oXor, oShl, oShr, oUshr, oRem, oDiv, oMx, oMn, oI2l, oLcmp, oDup, oDup2, oDupX1, oPop, bIc, bI0, bNul, getI, getR, putI, putZ, putR, aLen, aldI, aldZ, aldJ, aldR, astI, astZ, astJ, astR, nwO, nwA, gsT, oObj, oCpy, oCln, oCst, rtI, rtZ, rtR, rtV, thr, call, callH, ac_hsel, ac_as, ac_rs, ac_cs, ac_rcv, List.map_cons, List.map_nil, List.length_cons, List.length_nil, List.replicate, List.append_nil, List.cons_append, List.nil_append, List.getElem?_cons_zero, List.getElem?_cons_succ, List.set, Nat.zero_add, Nat.add_zero, Nat.le_refl, Nat.reduceAdd, Nat.reduceSub, Nat.reduceLeDiff, Int.reduceLT, Int.reduceLE, Int.reduceNeg, Int.reduceEq, true_and, and_true, true_or, or_true, not_true_eq_false, not_false_eq_true, false_implies, true_implies, implies_true, reduceIte, and_self, Int.reduceAdd, Int.reduceMul, Int.reduceSub, eq_self, Int.add_zero, Int.zero_add, String.reduceEq, Nat.zero_le, Option.some.injEq, Sum.inl.injEq, Sum.inr.injEq, reduceCtorEq, Int.reduceToNat, Option.toList_some, Option.toList_none, ac_cs, ac_c10, ac_c11, ac_c12, ac_c13, ac_c14, ac_c15, ac_c16, ac_c17, sc_E, sh_E, sc_I, sh_I, sc_II, sh_II, sc_III, sh_III, sc_R, sh_R, sc_RI, sh_RI, sc_RII, sh_RII, sc_RIII, sh_RIII, sc_RIIII, sh_RIIII, sc_RR, sh_RR, sc_RRI, sh_RRI, sc_RRR, sh_RRR, sc_RIR, sh_RIR, sc_RIRI, sh_RIRI, sc_RRII, sh_RRII, sc_RRIII, sh_RRIII, sc_RIIRR, sh_RIIRR, sc_RIIIRR, sh_RIIIRR, sc_RIIR, sh_RIIR, sc_RRIIR, sh_RRIIR, sc_RRIIIR, sh_RRIIIR, sc_RRIIIIR, sh_RRIIIIR, sc_RRIR, sh_RRIR]
  refine ⟨?_, fun E h' w => exRun w⟩
  rintro v h' ⟨rfl, r0, r1, rfl⟩
  obtain ⟨r2, e1, e2, -⟩ := RC_rn hR hS r0 r1
  obtain ⟨p1, p2, p3, p4, p5, p6⟩ := RC_play hR hS r0 r1
  simp only [h26, ac_ent, ldI, ldR, stI, stR, inc, cI, cJ, cN, bop, oAdd, oSub, oMul, oAnd, oOr, oXor, oShl, oShr, oUshr, oRem, oDiv, oMx, oMn, oI2l, oLcmp, oDup, oDup2, oDupX1, oPop, bIc, bI0, bNul, getI, getR, putI, putZ, putR, aLen, aldI, aldZ, aldJ, aldR, astI, astZ, astJ, astR, nwO, nwA, gsT, oObj, oCpy, oCln, oCst, rtI, rtZ, rtR, rtV, thr, call, callH, ac_hsel, ac_as, ac_rs, ac_cs, ac_rcv, List.map_cons, List.map_nil, List.length_cons, List.length_nil, List.replicate, List.append_nil, List.cons_append, List.nil_append, List.getElem?_cons_zero, List.getElem?_cons_succ, List.set, Nat.zero_add, Nat.add_zero, Nat.le_refl, Nat.reduceAdd, Nat.reduceSub, Nat.reduceLeDiff, Int.reduceLT, Int.reduceLE, Int.reduceNeg, Int.reduceEq, true_and, and_true, true_or, or_true, not_true_eq_false, not_false_eq_true, false_implies, true_implies, implies_true, reduceIte, and_self, Int.reduceAdd, Int.reduceMul, Int.reduceSub, eq_self, Int.add_zero, Int.zero_add, String.reduceEq, Nat.zero_le, Option.some.injEq, Sum.inl.injEq, Sum.inr.injEq, reduceCtorEq, Int.reduceToNat, Option.toList_some, Option.toList_none, ac_cs, ac_c10, ac_c11, ac_c12, ac_c13, ac_c14, ac_c15, ac_c16, ac_c17, sc_E, sh_E, sc_I, sh_I, sc_II, sh_II, sc_III, sh_III, sc_R, sh_R, sc_RI, sh_RI, sc_RII, sh_RII, sc_RIII, sh_RIII, sc_RIIII, sh_RIIII, sc_RR, sh_RR, sc_RRI, sh_RRI, sc_RRR, sh_RRR, sc_RIR, sh_RIR, sc_RIRI, sh_RIRI, sc_RRII, sh_RRII, sc_RRIII, sh_RRIII, sc_RIIRR, sh_RIIRR, sc_RIIIRR, sh_RIIIRR, sc_RIIR, sh_RIIR, sc_RRIIR, sh_RRIIR, sc_RRIIIR, sh_RRIIIR, sc_RRIIIIR, sh_RRIIIIR, sc_RRIR, sh_RRIR]
  rw [e2]
  refine ⟨p1, ?_⟩
  rintro v g ⟨rfl, rfl⟩
  have t1 : rp h' (h' 910 x 0) (plS h' (h' 803 (ad 30 r 0) 0) (h' 10 (h' 804 (ad 30 r 0) 0)) (plI h' (h' 803 (ad 30 r 0) 0) (rs h' (h' 910 x 0))) (h' 1 (h' 804 (ad 30 r 0) 0) 0).toNat).2 = plH h' (h' 910 x 0) (ad 30 r 0) := rfl
  rw [t1, ← e2]
  have t2 : plH h' (h' 910 x 0) (h' 17 (h' 908 x 0) r) 0 x 0 = 28 := by unfold plH; simp only [rp_up, rp_ast, rp_q, rp_k, rp_M, rp_rp, Nat.reduceLeDiff, Nat.reduceLT, Nat.reduceEqDiff, or_true, true_or, or_false, false_or, ne_eq, not_false_eq_true]; exact h1
  have t3 : plH h' (h' 910 x 0) (h' 17 (h' 908 x 0) r) 910 x 0 = h' 910 x 0 := by unfold plH; simp only [rp_up, rp_ast, rp_q, rp_k, rp_M, rp_rp, Nat.reduceLeDiff, Nat.reduceLT, Nat.reduceEqDiff, or_true, true_or, or_false, false_or, ne_eq, not_false_eq_true]
  have t4 : plH h' (h' 910 x 0) (h' 17 (h' 908 x 0) r) 0 (h' 910 x 0) 0 = 26 := by unfold plH; simp only [rp_up, rp_ast, rp_q, rp_k, rp_M, rp_rp, Nat.reduceLeDiff, Nat.reduceLT, Nat.reduceEqDiff, or_true, true_or, or_false, false_or, ne_eq, not_false_eq_true]; exact h26
  simp only [t2, t3, t4, ac_ent, ldI, ldR, stI, stR, inc, cI, cJ, cN, bop, oAdd, oSub, oMul, oAnd, oOr, oXor, oShl, oShr, oUshr, oRem, oDiv, oMx, oMn, oI2l, oLcmp, oDup, oDup2, oDupX1, oPop, bIc, bI0, bNul, getI, getR, putI, putZ, putR, aLen, aldI, aldZ, aldJ, aldR, astI, astZ, astJ, astR, nwO, nwA, gsT, oObj, oCpy, oCln, oCst, rtI, rtZ, rtR, rtV, thr, call, callH, ac_hsel, ac_as, ac_rs, ac_cs, ac_rcv, List.map_cons, List.map_nil, List.length_cons, List.length_nil, List.replicate, List.append_nil, List.cons_append, List.nil_append, List.getElem?_cons_zero, List.getElem?_cons_succ, List.set, Nat.zero_add, Nat.add_zero, Nat.le_refl, Nat.reduceAdd, Nat.reduceSub, Nat.reduceLeDiff, Int.reduceLT, Int.reduceLE, Int.reduceNeg, Int.reduceEq, true_and, and_true, true_or, or_true, not_true_eq_false, not_false_eq_true, false_implies, true_implies, implies_true, reduceIte, and_self, Int.reduceAdd, Int.reduceMul, Int.reduceSub, eq_self, Int.add_zero, Int.zero_add, String.reduceEq, Nat.zero_le, Option.some.injEq, Sum.inl.injEq, Sum.inr.injEq, reduceCtorEq, Int.reduceToNat, Option.toList_some, Option.toList_none, ac_cs, ac_c10, ac_c11, ac_c12, ac_c13, ac_c14, ac_c15, ac_c16, ac_c17, sc_E, sh_E, sc_I, sh_I, sc_II, sh_II, sc_III, sh_III, sc_R, sh_R, sc_RI, sh_RI, sc_RII, sh_RII, sc_RIII, sh_RIII, sc_RIIII, sh_RIIII, sc_RR, sh_RR, sc_RRI, sh_RRI, sc_RRR, sh_RRR, sc_RIR, sh_RIR, sc_RIRI, sh_RIRI, sc_RRII, sh_RRII, sc_RRIII, sh_RRIII, sc_RIIRR, sh_RIIRR, sc_RIIIRR, sh_RIIIRR, sc_RIIR, sh_RIIR, sc_RRIIR, sh_RRIIR, sc_RRIIIR, sh_RRIIIR, sc_RRIIIIR, sh_RRIIIIR, sc_RRIR, sh_RRIR]
  intro ad s hR hS
  obtain ⟨r2, e1, e2, -⟩ := RC_rn hR hS r0 r1
  obtain ⟨p1, p2, p3, p4, p5, p6⟩ := RC_play hR hS r0 r1
  rw [e2, p2]
  exact ⟨by rw [cdRun, if_pos ⟨r0, r2⟩], rfl, ad, p6⟩
def spX8_endOf : ac_Sp := sc_RI (fun x r h => CW h x) (fun x r h v h' => OKc x h h' v (cdRun r) (fun s => (gmS s r).2 4) id) (fun x r h E h' => EXc x h h' E (cdRun r) (fun _ => "java/lang/IndexOutOfBoundsException"))
set_option maxRecDepth 100000 in
set_option maxHeartbeats 4000000 in
theorem mtX8_endOf {G : ac_G} {l : Launch} : ac_Met G l yX8_endOf mX8_endOf 7 117 1 6 spX8_endOf := by
  refine ac_meth1 (pcs := pcX8_endOf) (B := fun P X J j => vcX8_endOf spX8_existingRun spX6_play P X J j) (by decide) rfl rfl rfl (fun P X J hJ j => sdX8_endOf mtX8_existingRun mtX6_play P X J hJ j) (hp_RI (by decide)) fun As h hp => ?_
  obtain ⟨x, r, rfl, hp⟩ := sh_RI_inv hp
  simp only [spX8_endOf, vcX8_endOf, mX8_endOf, spX8_existingRun, spX6_play, sc_RI, sh_RI, ac_ent, ldI, ldR, stI, stR, inc, cI, cJ, cN, bop, oAdd, oSub, oMul, oAnd, oOr, oXor, oShl, oShr, oUshr, oRem, oDiv, oMx, oMn, oI2l, oLcmp, oDup, oDup2, oDupX1, oPop, bIc, bI0, bNul, getI, getR, putI, putZ, putR, aLen, aldI, aldZ, aldJ, aldR, astI, astZ, astJ, astR, nwO, nwA, gsT, oObj, oCpy, oCln, oCst, rtI, rtZ, rtR, rtV, thr, call, callH, ac_hsel, ac_as, ac_rs, ac_cs, ac_rcv, List.map_cons, List.map_nil, List.length_cons, List.length_nil, List.replicate, List.append_nil, List.cons_append, List.nil_append, List.getElem?_cons_zero, List.getElem?_cons_succ, List.set, Nat.zero_add, Nat.add_zero, Nat.le_refl, Nat.reduceAdd, Nat.reduceSub, Nat.reduceLeDiff, Int.reduceLT, Int.reduceLE, Int.reduceNeg, Int.reduceEq, true_and, and_true, true_or, or_true, not_true_eq_false, not_false_eq_true, false_implies, true_implies, implies_true, reduceIte, and_self, Int.reduceAdd, Int.reduceMul, Int.reduceSub, eq_self, Int.add_zero, Int.zero_add, String.reduceEq, Nat.zero_le, Option.some.injEq, Sum.inl.injEq, Sum.inr.injEq, reduceCtorEq, Int.reduceToNat, Option.toList_some, Option.toList_none, ac_cs, ac_c10, ac_c11, ac_c12, ac_c13, ac_c14, ac_c15, ac_c16, ac_c17, sc_E, sh_E, sc_I, sh_I, sc_II, sh_II, sc_III, sh_III, sc_R, sh_R, sc_RI, sh_RI, sc_RII, sh_RII, sc_RIII, sh_RIII, sc_RIIII, sh_RIIII, sc_RR, sh_RR, sc_RRI, sh_RRI, sc_RRR, sh_RRR, sc_RIR, sh_RIR, sc_RIRI, sh_RIRI, sc_RRII, sh_RRII, sc_RRIII, sh_RRIII, sc_RIIRR, sh_RIIRR, sc_RIIIRR, sh_RIIIRR, sc_RIIR, sh_RIIR, sc_RRIIR, sh_RRIIR, sc_RRIIIR, sh_RRIIIR, sc_RRIIIIR, sh_RRIIIIR, sc_RRIR, sh_RRIR]
  have hC : CW h x := hp
  obtain ⟨ad, s, hR, hS⟩ := hp
  have h1 : h 0 x 0 = 28 := hR.2.1.2.2.1
  have h26 : h 0 (h 910 x 0) 0 = 26 := by rw [hR.2.1.2.2.2.2.2.2.2.1]; exact hR.2.1.2.2.2.2.2.2.2.2.2.2.2.2.2.2.2.2.2.2.2.2.2.2.2.2.2.1
  simp only [h1, hC, ac_ent, ldI, ldR, stI, stR, inc, cI, cJ, cN, bop, oAdd, oSub, oMul, oAnd, oOr, oXor, oShl, oShr, oUshr, oRem, oDiv, oMx, oMn, oI2l, oLcmp, oDup, oDup2, oDupX1, oPop, bIc, bI0, bNul, getI, getR, putI, putZ, putR, aLen, aldI, aldZ, aldJ, aldR, astI, astZ, astJ, astR, nwO, nwA, gsT, oObj, oCpy, oCln, oCst, rtI, rtZ, rtR, rtV, thr, call, callH, ac_hsel, ac_as, ac_rs, ac_cs, ac_rcv, List.map_cons, List.map_nil, List.length_cons, List.length_nil, List.replicate, List.append_nil, List.cons_append, List.nil_append, List.getElem?_cons_zero, List.getElem?_cons_succ, List.set, Nat.zero_add, Nat.add_zero, Nat.le_refl, Nat.reduceAdd, Nat.reduceSub, Nat.reduceLeDiff, Int.reduceLT, Int.reduceLE, Int.reduceNeg, Int.reduceEq, true_and, and_true, true_or, or_true, not_true_eq_false, not_false_eq_true, false_implies, true_implies, implies_true, reduceIte, and_self, Int.reduceAdd, Int.reduceMul, Int.reduceSub, eq_self, Int.add_zero, Int.zero_add, String.reduceEq, Nat.zero_le, Option.some.injEq, Sum.inl.injEq, Sum.inr.injEq, reduceCtorEq, Int.reduceToNat, Option.toList_some, Option.toList_none, ac_cs, ac_c10, ac_c11, ac_c12, ac_c13, ac_c14, ac_c15, ac_c16, ac_c17, sc_E, sh_E, sc_I, sh_I, sc_II, sh_II, sc_III, sh_III, sc_R, sh_R, sc_RI, sh_RI, sc_RII, sh_RII, sc_RIII, sh_RIII, sc_RIIII, sh_RIIII, sc_RR, sh_RR, sc_RRI, sh_RRI, sc_RRR, sh_RRR, sc_RIR, sh_RIR, sc_RIRI, sh_RIRI, sc_RRII, sh_RRII, sc_RRIII, sh_RRIII, sc_RIIRR, sh_RIIRR, sc_RIIIRR, sh_RIIIRR, sc_RIIR, sh_RIIR, sc_RRIIR, sh_RRIIR, sc_RRIIIR, sh_RRIIIR, sc_RRIIIIR, sh_RRIIIIR, sc_RRIR, sh_RRIR]
  refine ⟨?_, fun E h' w => exRun w⟩
  rintro v h' ⟨rfl, r0, r1, rfl⟩
  obtain ⟨r2, e1, e2, -⟩ := RC_rn hR hS r0 r1
  obtain ⟨p1, p2, p3, p4, p5, p6⟩ := RC_play hR hS r0 r1
  simp only [h26, ac_ent, ldI, ldR, stI, stR, inc, cI, cJ, cN, bop, oAdd, oSub, oMul, oAnd, oOr, oXor, oShl, oShr, oUshr, oRem, oDiv, oMx, oMn, oI2l, oLcmp, oDup, oDup2, oDupX1, oPop, bIc, bI0, bNul, getI, getR, putI, putZ, putR, aLen, aldI, aldZ, aldJ, aldR, astI, astZ, astJ, astR, nwO, nwA, gsT, oObj, oCpy, oCln, oCst, rtI, rtZ, rtR, rtV, thr, call, callH, ac_hsel, ac_as, ac_rs, ac_cs, ac_rcv, List.map_cons, List.map_nil, List.length_cons, List.length_nil, List.replicate, List.append_nil, List.cons_append, List.nil_append, List.getElem?_cons_zero, List.getElem?_cons_succ, List.set, Nat.zero_add, Nat.add_zero, Nat.le_refl, Nat.reduceAdd, Nat.reduceSub, Nat.reduceLeDiff, Int.reduceLT, Int.reduceLE, Int.reduceNeg, Int.reduceEq, true_and, and_true, true_or, or_true, not_true_eq_false, not_false_eq_true, false_implies, true_implies, implies_true, reduceIte, and_self, Int.reduceAdd, Int.reduceMul, Int.reduceSub, eq_self, Int.add_zero, Int.zero_add, String.reduceEq, Nat.zero_le, Option.some.injEq, Sum.inl.injEq, Sum.inr.injEq, reduceCtorEq, Int.reduceToNat, Option.toList_some, Option.toList_none, ac_cs, ac_c10, ac_c11, ac_c12, ac_c13, ac_c14, ac_c15, ac_c16, ac_c17, sc_E, sh_E, sc_I, sh_I, sc_II, sh_II, sc_III, sh_III, sc_R, sh_R, sc_RI, sh_RI, sc_RII, sh_RII, sc_RIII, sh_RIII, sc_RIIII, sh_RIIII, sc_RR, sh_RR, sc_RRI, sh_RRI, sc_RRR, sh_RRR, sc_RIR, sh_RIR, sc_RIRI, sh_RIRI, sc_RRII, sh_RRII, sc_RRIII, sh_RRIII, sc_RIIRR, sh_RIIRR, sc_RIIIRR, sh_RIIIRR, sc_RIIR, sh_RIIR, sc_RRIIR, sh_RRIIR, sc_RRIIIR, sh_RRIIIR, sc_RRIIIIR, sh_RRIIIIR, sc_RRIR, sh_RRIR]
  rw [e2]
  refine ⟨p1, ?_⟩
  rintro v g ⟨rfl, rfl⟩
  have t1 : rp h' (h' 910 x 0) (plS h' (h' 803 (ad 30 r 0) 0) (h' 10 (h' 804 (ad 30 r 0) 0)) (plI h' (h' 803 (ad 30 r 0) 0) (rs h' (h' 910 x 0))) (h' 1 (h' 804 (ad 30 r 0) 0) 0).toNat).2 = plH h' (h' 910 x 0) (ad 30 r 0) := rfl
  rw [t1, ← e2]
  have t2 : plH h' (h' 910 x 0) (h' 17 (h' 908 x 0) r) 0 x 0 = 28 := by unfold plH; simp only [rp_up, rp_ast, rp_q, rp_k, rp_M, rp_rp, Nat.reduceLeDiff, Nat.reduceLT, Nat.reduceEqDiff, or_true, true_or, or_false, false_or, ne_eq, not_false_eq_true]; exact h1
  have t3 : plH h' (h' 910 x 0) (h' 17 (h' 908 x 0) r) 910 x 0 = h' 910 x 0 := by unfold plH; simp only [rp_up, rp_ast, rp_q, rp_k, rp_M, rp_rp, Nat.reduceLeDiff, Nat.reduceLT, Nat.reduceEqDiff, or_true, true_or, or_false, false_or, ne_eq, not_false_eq_true]
  have t4 : plH h' (h' 910 x 0) (h' 17 (h' 908 x 0) r) 0 (h' 910 x 0) 0 = 26 := by unfold plH; simp only [rp_up, rp_ast, rp_q, rp_k, rp_M, rp_rp, Nat.reduceLeDiff, Nat.reduceLT, Nat.reduceEqDiff, or_true, true_or, or_false, false_or, ne_eq, not_false_eq_true]; exact h26
  simp only [t2, t3, t4, ac_ent, ldI, ldR, stI, stR, inc, cI, cJ, cN, bop, oAdd, oSub, oMul, oAnd, oOr, oXor, oShl, oShr, oUshr, oRem, oDiv, oMx, oMn, oI2l, oLcmp, oDup, oDup2, oDupX1, oPop, bIc, bI0, bNul, getI, getR, putI, putZ, putR, aLen, aldI, aldZ, aldJ, aldR, astI, astZ, astJ, astR, nwO, nwA, gsT, oObj, oCpy, oCln, oCst, rtI, rtZ, rtR, rtV, thr, call, callH, ac_hsel, ac_as, ac_rs, ac_cs, ac_rcv, List.map_cons, List.map_nil, List.length_cons, List.length_nil, List.replicate, List.append_nil, List.cons_append, List.nil_append, List.getElem?_cons_zero, List.getElem?_cons_succ, List.set, Nat.zero_add, Nat.add_zero, Nat.le_refl, Nat.reduceAdd, Nat.reduceSub, Nat.reduceLeDiff, Int.reduceLT, Int.reduceLE, Int.reduceNeg, Int.reduceEq, true_and, and_true, true_or, or_true, not_true_eq_false, not_false_eq_true, false_implies, true_implies, implies_true, reduceIte, and_self, Int.reduceAdd, Int.reduceMul, Int.reduceSub, eq_self, Int.add_zero, Int.zero_add, String.reduceEq, Nat.zero_le, Option.some.injEq, Sum.inl.injEq, Sum.inr.injEq, reduceCtorEq, Int.reduceToNat, Option.toList_some, Option.toList_none, ac_cs, ac_c10, ac_c11, ac_c12, ac_c13, ac_c14, ac_c15, ac_c16, ac_c17, sc_E, sh_E, sc_I, sh_I, sc_II, sh_II, sc_III, sh_III, sc_R, sh_R, sc_RI, sh_RI, sc_RII, sh_RII, sc_RIII, sh_RIII, sc_RIIII, sh_RIIII, sc_RR, sh_RR, sc_RRI, sh_RRI, sc_RRR, sh_RRR, sc_RIR, sh_RIR, sc_RIRI, sh_RIRI, sc_RRII, sh_RRII, sc_RRIII, sh_RRIII, sc_RIIRR, sh_RIIRR, sc_RIIIRR, sh_RIIIRR, sc_RIIR, sh_RIIR, sc_RRIIR, sh_RRIIR, sc_RRIIIR, sh_RRIIIR, sc_RRIIIIR, sh_RRIIIIR, sc_RRIR, sh_RRIR]
  intro ad s hR hS
  obtain ⟨r2, e1, e2, -⟩ := RC_rn hR hS r0 r1
  obtain ⟨p1, p2, p3, p4, p5, p6⟩ := RC_play hR hS r0 r1
  rw [e2, p3]
  exact ⟨by rw [cdRun, if_pos ⟨r0, r2⟩], rfl, ad, p6⟩
def vlJudge (r : Int) (s : sS) : Int := if (gmS s r).1 ≠ -1 then (gmS s r).1 else if (gmS s r).2 3 = s 22 r 0 then -1 else -2
def FJudge (r : Int) (s : sS) : sS := us s 24 r 0 (vlJudge r s)
def spX8_judge : ac_Sp := sc_RI (fun x r h => CW h x) (fun x r h v h' => OKc x h h' v (cdRun r) (vlJudge r) (FJudge r)) (fun x r h E h' => EXc x h h' E (cdRun r) (fun _ => "java/lang/IndexOutOfBoundsException"))
set_option maxRecDepth 100000 in
set_option maxHeartbeats 4000000 in
theorem mtX8_judge {G : ac_G} {l : Launch} : ac_Met G l yX8_judge mX8_judge 7 117 1 6 spX8_judge := by
  refine ac_meth1 (pcs := pcX8_judge) (B := fun P X J j => vcX8_judge spX8_existingRun spX6_play spX6_verdictOn P X J j) (by decide) rfl rfl rfl (fun P X J hJ j => sdX8_judge mtX8_existingRun mtX6_play mtX6_verdictOn P X J hJ j) (hp_RI (by decide)) fun As h hp => ?_
  obtain ⟨x, r, rfl, hp⟩ := sh_RI_inv hp
  simp only [spX8_judge, vcX8_judge, mX8_judge, spX8_existingRun, spX6_play, spX6_verdictOn, sc_RI, sh_RI, ac_ent, ldI, ldR, stI, stR, inc, cI, cJ, cN, bop, oAdd, oSub, oMul, oAnd, oOr, oXor, oShl, oShr, oUshr, oRem, oDiv, oMx, oMn, oI2l, oLcmp, oDup, oDup2, oDupX1, oPop, bIc, bI0, bNul, getI, getR, putI, putZ, putR, aLen, aldI, aldZ, aldJ, aldR, astI, astZ, astJ, astR, nwO, nwA, gsT, oObj, oCpy, oCln, oCst, rtI, rtZ, rtR, rtV, thr, call, callH, ac_hsel, ac_as, ac_rs, ac_cs, ac_rcv, List.map_cons, List.map_nil, List.length_cons, List.length_nil, List.replicate, List.append_nil, List.cons_append, List.nil_append, List.getElem?_cons_zero, List.getElem?_cons_succ, List.set, Nat.zero_add, Nat.add_zero, Nat.le_refl, Nat.reduceAdd, Nat.reduceSub, Nat.reduceLeDiff, Int.reduceLT, Int.reduceLE, Int.reduceNeg, Int.reduceEq, true_and, and_true, true_or, or_true, not_true_eq_false, not_false_eq_true, false_implies, true_implies, implies_true, reduceIte, and_self, Int.reduceAdd, Int.reduceMul, Int.reduceSub, eq_self, Int.add_zero, Int.zero_add, String.reduceEq, Nat.zero_le, Option.some.injEq, Sum.inl.injEq, Sum.inr.injEq, reduceCtorEq, Int.reduceToNat, Option.toList_some, Option.toList_none, ac_cs, ac_c10, ac_c11, ac_c12, ac_c13, ac_c14, ac_c15, ac_c16, ac_c17, sc_E, sh_E, sc_I, sh_I, sc_II, sh_II, sc_III, sh_III, sc_R, sh_R, sc_RI, sh_RI, sc_RII, sh_RII, sc_RIII, sh_RIII, sc_RIIII, sh_RIIII, sc_RR, sh_RR, sc_RRI, sh_RRI, sc_RRR, sh_RRR, sc_RIR, sh_RIR, sc_RIRI, sh_RIRI, sc_RRII, sh_RRII, sc_RRIII, sh_RRIII, sc_RIIRR, sh_RIIRR, sc_RIIIRR, sh_RIIIRR, sc_RIIR, sh_RIIR, sc_RRIIR, sh_RRIIR, sc_RRIIIR, sh_RRIIIR, sc_RRIIIIR, sh_RRIIIIR, sc_RRIR, sh_RRIR]
  have hC : CW h x := hp
  obtain ⟨ad, s, hR, hS⟩ := hp
  have h1 : h 0 x 0 = 28 := hR.2.1.2.2.1
  have h26 : h 0 (h 910 x 0) 0 = 26 := by rw [hR.2.1.2.2.2.2.2.2.2.1]; exact hR.2.1.2.2.2.2.2.2.2.2.2.2.2.2.2.2.2.2.2.2.2.2.2.2.2.2.2.1
  simp only [h1, hC, ac_ent, ldI, ldR, stI, stR, inc, cI, cJ, cN, bop, oAdd, oSub, oMul, oAnd, oOr, oXor, oShl, oShr, oUshr, oRem, oDiv, oMx, oMn, oI2l, oLcmp, oDup, oDup2, oDupX1, oPop, bIc, bI0, bNul, getI, getR, putI, putZ, putR, aLen, aldI, aldZ, aldJ, aldR, astI, astZ, astJ, astR, nwO, nwA, gsT, oObj, oCpy, oCln, oCst, rtI, rtZ, rtR, rtV, thr, call, callH, ac_hsel, ac_as, ac_rs, ac_cs, ac_rcv, List.map_cons, List.map_nil, List.length_cons, List.length_nil, List.replicate, List.append_nil, List.cons_append, List.nil_append, List.getElem?_cons_zero, List.getElem?_cons_succ, List.set, Nat.zero_add, Nat.add_zero, Nat.le_refl, Nat.reduceAdd, Nat.reduceSub, Nat.reduceLeDiff, Int.reduceLT, Int.reduceLE, Int.reduceNeg, Int.reduceEq, true_and, and_true, true_or, or_true, not_true_eq_false, not_false_eq_true, false_implies, true_implies, implies_true, reduceIte, and_self, Int.reduceAdd, Int.reduceMul, Int.reduceSub, eq_self, Int.add_zero, Int.zero_add, String.reduceEq, Nat.zero_le, Option.some.injEq, Sum.inl.injEq, Sum.inr.injEq, reduceCtorEq, Int.reduceToNat, Option.toList_some, Option.toList_none, ac_cs, ac_c10, ac_c11, ac_c12, ac_c13, ac_c14, ac_c15, ac_c16, ac_c17, sc_E, sh_E, sc_I, sh_I, sc_II, sh_II, sc_III, sh_III, sc_R, sh_R, sc_RI, sh_RI, sc_RII, sh_RII, sc_RIII, sh_RIII, sc_RIIII, sh_RIIII, sc_RR, sh_RR, sc_RRI, sh_RRI, sc_RRR, sh_RRR, sc_RIR, sh_RIR, sc_RIRI, sh_RIRI, sc_RRII, sh_RRII, sc_RRIII, sh_RRIII, sc_RIIRR, sh_RIIRR, sc_RIIIRR, sh_RIIIRR, sc_RIIR, sh_RIIR, sc_RRIIR, sh_RRIIR, sc_RRIIIR, sh_RRIIIR, sc_RRIIIIR, sh_RRIIIIR, sc_RRIR, sh_RRIR]
  refine ⟨?_, fun E h' w => exRun w⟩
  rintro v h' ⟨rfl, r0, r1, rfl⟩
  obtain ⟨r2, e1, e2, e3, e4, e5, e6, e7, e8, e9, e10, e11, e12, e13, e14, e15, e16⟩ := RC_rn hR hS r0 r1
  obtain ⟨p1, -⟩ := RC_play hR hS r0 r1
  simp only [h1, h26, ac_ent, ldI, ldR, stI, stR, inc, cI, cJ, cN, bop, oAdd, oSub, oMul, oAnd, oOr, oXor, oShl, oShr, oUshr, oRem, oDiv, oMx, oMn, oI2l, oLcmp, oDup, oDup2, oDupX1, oPop, bIc, bI0, bNul, getI, getR, putI, putZ, putR, aLen, aldI, aldZ, aldJ, aldR, astI, astZ, astJ, astR, nwO, nwA, gsT, oObj, oCpy, oCln, oCst, rtI, rtZ, rtR, rtV, thr, call, callH, ac_hsel, ac_as, ac_rs, ac_cs, ac_rcv, List.map_cons, List.map_nil, List.length_cons, List.length_nil, List.replicate, List.append_nil, List.cons_append, List.nil_append, List.getElem?_cons_zero, List.getElem?_cons_succ, List.set, Nat.zero_add, Nat.add_zero, Nat.le_refl, Nat.reduceAdd, Nat.reduceSub, Nat.reduceLeDiff, Int.reduceLT, Int.reduceLE, Int.reduceNeg, Int.reduceEq, true_and, and_true, true_or, or_true, not_true_eq_false, not_false_eq_true, false_implies, true_implies, implies_true, reduceIte, and_self, Int.reduceAdd, Int.reduceMul, Int.reduceSub, eq_self, Int.add_zero, Int.zero_add, String.reduceEq, Nat.zero_le, Option.some.injEq, Sum.inl.injEq, Sum.inr.injEq, reduceCtorEq, Int.reduceToNat, Option.toList_some, Option.toList_none, ac_cs, ac_c10, ac_c11, ac_c12, ac_c13, ac_c14, ac_c15, ac_c16, ac_c17, sc_E, sh_E, sc_I, sh_I, sc_II, sh_II, sc_III, sh_III, sc_R, sh_R, sc_RI, sh_RI, sc_RII, sh_RII, sc_RIII, sh_RIII, sc_RIIII, sh_RIIII, sc_RR, sh_RR, sc_RRI, sh_RRI, sc_RRR, sh_RRR, sc_RIR, sh_RIR, sc_RIRI, sh_RIRI, sc_RRII, sh_RRII, sc_RRIII, sh_RRIII, sc_RIIRR, sh_RIIRR, sc_RIIIRR, sh_RIIIRR, sc_RIIR, sh_RIIR, sc_RRIIR, sh_RRIIR, sc_RRIIIR, sh_RRIIIR, sc_RRIIIIR, sh_RRIIIIR, sc_RRIR, sh_RRIR]
  rw [e2]
  refine ⟨p1, ?_⟩
  rintro v g ⟨rfl, rfl⟩
  have t1 : rp h' (h' 910 x 0) (plS h' (h' 803 (ad 30 r 0) 0) (h' 10 (h' 804 (ad 30 r 0) 0)) (plI h' (h' 803 (ad 30 r 0) 0) (rs h' (h' 910 x 0))) (h' 1 (h' 804 (ad 30 r 0) 0) 0).toNat).2 = plH h' (h' 910 x 0) (ad 30 r 0) := rfl
  rw [t1, ← e2]
  have t2 : plH h' (h' 910 x 0) (h' 17 (h' 908 x 0) r) 0 x 0 = 28 := by unfold plH; simp only [rp_up, rp_ast, rp_q, rp_k, rp_M, rp_rp, Nat.reduceLeDiff, Nat.reduceLT, Nat.reduceEqDiff, or_true, true_or, or_false, false_or, ne_eq, not_false_eq_true]; exact h1
  have t3 : plH h' (h' 910 x 0) (h' 17 (h' 908 x 0) r) 910 x 0 = h' 910 x 0 := by unfold plH; simp only [rp_up, rp_ast, rp_q, rp_k, rp_M, rp_rp, Nat.reduceLeDiff, Nat.reduceLT, Nat.reduceEqDiff, or_true, true_or, or_false, false_or, ne_eq, not_false_eq_true]
  have t4 : plH h' (h' 910 x 0) (h' 17 (h' 908 x 0) r) 0 (h' 910 x 0) 0 = 26 := by unfold plH; simp only [rp_up, rp_ast, rp_q, rp_k, rp_M, rp_rp, Nat.reduceLeDiff, Nat.reduceLT, Nat.reduceEqDiff, or_true, true_or, or_false, false_or, ne_eq, not_false_eq_true]; exact h26
  have t5 : plH h' (h' 910 x 0) (h' 17 (h' 908 x 0) r) 0 (h' 17 (h' 908 x 0) r) 0 = 27 := by unfold plH; simp only [rp_up, rp_ast, rp_q, rp_k, rp_M, rp_rp, Nat.reduceLeDiff, Nat.reduceLT, Nat.reduceEqDiff, or_true, true_or, or_false, false_or, ne_eq, not_false_eq_true]; rw [e2]; exact e4
  have t6 : plH h' (h' 910 x 0) (h' 17 (h' 908 x 0) r) 804 (h' 17 (h' 908 x 0) r) 0 = h' 804 (h' 17 (h' 908 x 0) r) 0 := by unfold plH; simp only [rp_up, rp_ast, rp_q, rp_k, rp_M, rp_rp, Nat.reduceLeDiff, Nat.reduceLT, Nat.reduceEqDiff, or_true, true_or, or_false, false_or, ne_eq, not_false_eq_true]
  have t7 : plH h' (h' 910 x 0) (h' 17 (h' 908 x 0) r) 0 (h' 804 (h' 17 (h' 908 x 0) r) 0) 0 = 10 := by unfold plH; simp only [rp_up, rp_ast, rp_q, rp_k, rp_M, rp_rp, Nat.reduceLeDiff, Nat.reduceLT, Nat.reduceEqDiff, or_true, true_or, or_false, false_or, ne_eq, not_false_eq_true]; rw [e2, e9]; exact e11
  have t8 : plH h' (h' 910 x 0) (h' 17 (h' 908 x 0) r) 1 (h' 804 (h' 17 (h' 908 x 0) r) 0) 0 = h' 1 (h' 804 (h' 17 (h' 908 x 0) r) 0) 0 := by unfold plH; simp only [rp_up, rp_ast, rp_q, rp_k, rp_M, rp_rp, Nat.reduceLeDiff, Nat.reduceLT, Nat.reduceEqDiff, or_true, true_or, or_false, false_or, ne_eq, not_false_eq_true]
  have t9 : plH h' (h' 910 x 0) (h' 17 (h' 908 x 0) r) 802 (h' 17 (h' 908 x 0) r) 0 = h' 802 (h' 17 (h' 908 x 0) r) 0 := by unfold plH; simp only [rp_up, rp_ast, rp_q, rp_k, rp_M, rp_rp, Nat.reduceLeDiff, Nat.reduceLT, Nat.reduceEqDiff, or_true, true_or, or_false, false_or, ne_eq, not_false_eq_true]
  simp only [t2, t3, t4, t5, t6, t7, t8, t9, ac_ent, ldI, ldR, stI, stR, inc, cI, cJ, cN, bop, oAdd, oSub, oMul, oAnd, oOr, oXor, oShl, oShr, oUshr, oRem, oDiv, oMx, oMn, oI2l, oLcmp, oDup, oDup2, oDupX1, oPop, bIc, bI0, bNul, getI, getR, putI, putZ, putR, aLen, aldI, aldZ, aldJ, aldR, astI, astZ, astJ, astR, nwO, nwA, gsT, oObj, oCpy, oCln, oCst, rtI, rtZ, rtR, rtV, thr, call, callH, ac_hsel, ac_as, ac_rs, ac_cs, ac_rcv, List.map_cons, List.map_nil, List.length_cons, List.length_nil, List.replicate, List.append_nil, List.cons_append, List.nil_append, List.getElem?_cons_zero, List.getElem?_cons_succ, List.set, Nat.zero_add, Nat.add_zero, Nat.le_refl, Nat.reduceAdd, Nat.reduceSub, Nat.reduceLeDiff, Int.reduceLT, Int.reduceLE, Int.reduceNeg, Int.reduceEq, true_and, and_true, true_or, or_true, not_true_eq_false, not_false_eq_true, false_implies, true_implies, implies_true, reduceIte, and_self, Int.reduceAdd, Int.reduceMul, Int.reduceSub, eq_self, Int.add_zero, Int.zero_add, String.reduceEq, Nat.zero_le, Option.some.injEq, Sum.inl.injEq, Sum.inr.injEq, reduceCtorEq, Int.reduceToNat, Option.toList_some, Option.toList_none, ac_cs, ac_c10, ac_c11, ac_c12, ac_c13, ac_c14, ac_c15, ac_c16, ac_c17, sc_E, sh_E, sc_I, sh_I, sc_II, sh_II, sc_III, sh_III, sc_R, sh_R, sc_RI, sh_RI, sc_RII, sh_RII, sc_RIII, sh_RIII, sc_RIIII, sh_RIIII, sc_RR, sh_RR, sc_RRI, sh_RRI, sc_RRR, sh_RRR, sc_RIR, sh_RIR, sc_RIRI, sh_RIRI, sc_RRII, sh_RRII, sc_RRIII, sh_RRIII, sc_RIIRR, sh_RIIRR, sc_RIIIRR, sh_RIIIRR, sc_RIIR, sh_RIIR, sc_RRIIR, sh_RRIIR, sc_RRIIIR, sh_RRIIIR, sc_RRIIIIR, sh_RRIIIIR, sc_RRIR, sh_RRIR]
  rintro v g ⟨rfl, rfl⟩
  simp only [t5, up_self, up_k, ast_k, up_kf, ast_kf, ne_eq, Nat.reduceEqDiff, not_false_eq_true, ac_ent, ldI, ldR, stI, stR, inc, cI, cJ, cN, bop, oAdd, oSub, oMul, oAnd, oOr, oXor, oShl, oShr, oUshr, oRem, oDiv, oMx, oMn, oI2l, oLcmp, oDup, oDup2, oDupX1, oPop, bIc, bI0, bNul, getI, getR, putI, putZ, putR, aLen, aldI, aldZ, aldJ, aldR, astI, astZ, astJ, astR, nwO, nwA, gsT, oObj, oCpy, oCln, oCst, rtI, rtZ, rtR, rtV, thr, call, callH, ac_hsel, ac_as, ac_rs, ac_cs, ac_rcv, List.map_cons, List.map_nil, List.length_cons, List.length_nil, List.replicate, List.append_nil, List.cons_append, List.nil_append, List.getElem?_cons_zero, List.getElem?_cons_succ, List.set, Nat.zero_add, Nat.add_zero, Nat.le_refl, Nat.reduceAdd, Nat.reduceSub, Nat.reduceLeDiff, Int.reduceLT, Int.reduceLE, Int.reduceNeg, Int.reduceEq, true_and, and_true, true_or, or_true, not_true_eq_false, not_false_eq_true, false_implies, true_implies, implies_true, reduceIte, and_self, Int.reduceAdd, Int.reduceMul, Int.reduceSub, eq_self, Int.add_zero, Int.zero_add, String.reduceEq, Nat.zero_le, Option.some.injEq, Sum.inl.injEq, Sum.inr.injEq, reduceCtorEq, Int.reduceToNat, Option.toList_some, Option.toList_none, ac_cs, ac_c10, ac_c11, ac_c12, ac_c13, ac_c14, ac_c15, ac_c16, ac_c17, sc_E, sh_E, sc_I, sh_I, sc_II, sh_II, sc_III, sh_III, sc_R, sh_R, sc_RI, sh_RI, sc_RII, sh_RII, sc_RIII, sh_RIII, sc_RIIII, sh_RIIII, sc_RR, sh_RR, sc_RRI, sh_RRI, sc_RRR, sh_RRR, sc_RIR, sh_RIR, sc_RIRI, sh_RIRI, sc_RRII, sh_RRII, sc_RRIII, sh_RRIII, sc_RIIRR, sh_RIIRR, sc_RIIIRR, sh_RIIIRR, sc_RIIR, sh_RIIR, sc_RRIIR, sh_RRIIR, sc_RRIIIR, sh_RRIIIR, sc_RRIIIIR, sh_RRIIIIR, sc_RRIR, sh_RRIR]
  intro ad s hR hS
  obtain ⟨r2, e1, e2, e3, e4, e5, e6, e7, e8, e9, e10, e11, e12, e13, e14, e15, e16⟩ := RC_rn hR hS r0 r1
  obtain ⟨p1, p2, p3, p4, p5, p6⟩ := RC_play hR hS r0 r1
  rw [e2, p2, p4, e7, e9, e12]
  have vj : (if (if (gmS s r).1 = -1 then s 21 r 0 else (gmS s r).1) < s 21 r 0 then (if (gmS s r).1 = -1 then s 21 r 0 else (gmS s r).1) else if (gmS s r).2 3 = s 22 r 0 then -1 else -2) = vlJudge r s := by
    unfold vlJudge
    rcases p5 with q | ⟨q, q2⟩
    · rw [if_pos q, if_neg (show ¬ s 21 r 0 < s 21 r 0 by omega), if_neg (show ¬ (gmS s r).1 ≠ -1 by omega)]
    · rw [if_neg (show ¬ (gmS s r).1 = -1 by omega), if_pos q2, if_pos (show (gmS s r).1 ≠ -1 by omega)]
  rw [vj]
  refine ⟨by rw [cdRun, if_pos ⟨r0, r2⟩], rfl, ad, RC_805 p6.1, FR_tr p6.2 FR_up fun y hy => ?_⟩
  unfold plH
  rw [rp_k (by omega) (by omega)]
  exact hy
