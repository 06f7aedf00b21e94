/-! ===== the game by the state: 0 floor, 1 room, 2 health, 3 score, 4 end, 5 fought, 6 taken ===== -/
def mst (s : sS) (q : Int) (m : Nat → Int) : Int := if bt (m 5) (m 1) = 1 then 0 else s 15 q (m 1)
def mc1 (s : sS) (q : Int) (m : Nat → Int) : Nat → Int := upq (upq (upq m 2 (wr (m 2 - mst s q m))) 3 (wr (m 3 + mst s q m))) 5 (ior (m 5) (ishl 1 (m 1)))
def mcm (s : sS) (q : Int) (m : Nat → Int) : Nat → Int := if mc1 s q m 2 ≤ 0 then upq (mc1 s q m) 4 1 else if bt (s 16 q 0) (m 1) = 1 ∧ bt (m 6) (m 1) = 0 then upq (upq (mc1 s q m) 6 (ior (m 6) (ishl 1 (m 1)))) 3 (wr (mc1 s q m 3 + 5)) else mc1 s q m
def mdn (m : Nat → Int) : Nat → Int := upq (upq (upq (upq (upq m 0 (m 0 + 1)) 5 0) 6 0) 4 (if m 0 + 1 = 3 then 2 else m 4)) 3 (wr (m 3 + (if m 0 + 1 = 3 then 20 else 0)))
def mrs (s : sS) (d : Int) (m : Nat → Int) : Nat → Int := upq (upq m 2 (if s 13 d 4 < wr (m 2 + s 13 d 5) then s 13 d 4 else wr (m 2 + s 13 d 5))) 3 (wr (m 3 - 1))
def mtk (s : sS) (d : Int) (m : Nat → Int) (key : Int) : Int × (Nat → Int) :=
  if m 4 ≠ 0 ∨ (key = 4 ∧ m 1 ≠ s 17 (3 * d + m 0) 0) ∨ (key < 4 ∧ bt (s 14 (3 * d + m 0) (m 1)) key = 0) then (0, m)
  else if key < 4 then (1, mcm s (3 * d + m 0) (upq m 1 (nb (m 1) key))) else if key = 4 then (1, mdn m) else (1, mrs s d m)
def m00 (s : sS) (d : Int) : Nat → Int := fun k => if k = 2 then s 13 d 4 else 0
def mpl (s : sS) (r : Int) : Nat → Int × (Nat → Int)
  | 0 => (-1, m00 s (s 23 r 0))
  | n + 1 => if (mpl s r n).1 ≠ -1 then mpl s r n else if (mtk s (s 23 r 0) (mpl s r n).2 (s 20 r n)).1 = 0 then (n, (mtk s (s 23 r 0) (mpl s r n).2 (s 20 r n)).2) else (-1, (mtk s (s 23 r 0) (mpl s r n).2 (s 20 r n)).2)
def gmS (s : sS) (r : Int) : Int × (Nat → Int) := mpl s r (s 21 r 0).toNat
/-- the data of dungeon number d at address D -/
def GD (h : ac_H) (s : sS) (D d : Int) : Prop := rul h D 4 = s 13 d 4 ∧ rul h D 5 = s 13 d 5 ∧ ∀ f, 0 ≤ f → f < 3 → h 10 (h 402 (flr h D f) 0) = s 14 (3 * d + f) ∧ h 10 (h 403 (flr h D f) 0) = s 15 (3 * d + f) ∧ h 404 (flr h D f) 0 = s 16 (3 * d + f) 0 ∧ h 401 (flr h D f) 0 = s 17 (3 * d + f) 0 ∧ h 400 (flr h D f) 0 = entS s d f ∧ DOK (s 14 (3 * d + f))
def SIM (s : sS) (d : Int) (T : (Nat → Int) × (Int → Int)) (m : Nat → Int) : Prop := T.1 704 = m 1 ∧ T.1 705 = m 2 ∧ T.1 706 = m 3 ∧ T.1 707 = m 4 ∧ (0 ≤ m 1 ∧ m 1 < 16) ∧ wr (m 3) = m 3 ∧
  (m 4 = 0 → T.1 703 = m 0 ∧ (0 ≤ m 0 ∧ m 0 < 3) ∧ (∀ r, 0 ≤ r → r < 16 → T.2 r = if bt (m 5) r = 1 then 0 else s 15 (3 * d + m 0) r) ∧ ∀ r, 0 ≤ r → r < 16 → bt (T.1 701) r = if bt (m 6) r = 1 then 0 else bt (s 16 (3 * d + m 0) 0) r)
theorem wr_wr (z : Int) : wr (wr z) = wr z := wr_eq (ac_wrr z)
theorem upq_s {q : Nat → Int} {k : Nat} {v : Int} : upq q k v k = v := if_pos rfl
theorem upq_n {q : Nat → Int} {k k' : Nat} {v : Int} (e : k' ≠ k) : upq q k v k' = q k' := if_neg e
theorem fgS_1 {S : (Nat → Int) × (Int → Int)} : (fgS S).1 705 = wr (S.1 705 - S.2 (S.1 704)) ∧ (fgS S).1 706 = wr (S.1 706 + S.2 (S.1 704)) ∧ (fgS S).1 704 = S.1 704 ∧ (fgS S).1 703 = S.1 703 ∧ (fgS S).1 701 = S.1 701 ∧ (fgS S).1 707 = (if 0 < wr (S.1 705 - S.2 (S.1 704)) then S.1 707 else 1) ∧ (fgS S).2 = fu S.2 (S.1 704) 0 := by
  have e : upq (upq S.1 705 (wr (S.1 705 - S.2 (S.1 704)))) 706 (wr (S.1 706 + S.2 (S.1 704))) 705 = wr (S.1 705 - S.2 (S.1 704)) := by simp [upq]
  unfold fgS
  simp only [e]
  by_cases q : 0 < wr (S.1 705 - S.2 (S.1 704))
  · simp only [if_pos q]; simp [upq]
  · simp only [if_neg q]; simp [upq]
theorem mtk_no {s : sS} {d key : Int} {m : Nat → Int} (c : m 4 ≠ 0 ∨ (key = 4 ∧ m 1 ≠ s 17 (3 * d + m 0) 0) ∨ (key < 4 ∧ bt (s 14 (3 * d + m 0) (m 1)) key = 0)) : mtk s d m key = (0, m) := by unfold mtk; rw [if_pos c]
theorem mtk_go {s : sS} {d key : Int} {m : Nat → Int} (e0 : m 4 = 0) (k : key < 4) (c : ¬ bt (s 14 (3 * d + m 0) (m 1)) key = 0) : mtk s d m key = (1, mcm s (3 * d + m 0) (upq m 1 (nb (m 1) key))) := by
  unfold mtk; rw [if_neg (by omega), if_pos k]
theorem mtk_dn {s : sS} {d : Int} {m : Nat → Int} (e0 : m 4 = 0) (c : m 1 = s 17 (3 * d + m 0) 0) : mtk s d m 4 = (1, mdn m) := by
  unfold mtk; rw [if_neg (by omega), if_neg (by omega), if_pos rfl]
theorem mtk_rs {s : sS} {d : Int} {m : Nat → Int} (e0 : m 4 = 0) : mtk s d m 5 = (1, mrs s d m) := by
  unfold mtk; rw [if_neg (by omega), if_neg (by omega), if_neg (by omega)]
theorem sim_step {h : ac_H} {s : sS} {D d key : Int} {T : (Nat → Int) × (Int → Int)} {m : Nat → Int} (hd : GD h s D d) (hs : SIM s d T m) (k0 : 0 ≤ key) (k1 : key < 6) : (tkS h D T key).1 = (mtk s d m key).1 ∧ SIM s d (tkS h D T key).2 (mtk s d m key).2 := by
  obtain ⟨t1, t2, t3, t4, t5, t6, t7⟩ := id hs
  by_cases e0 : m 4 = 0
  case neg =>
    have hT : tkS h D T key = (0, T) := by unfold tkS; rw [t4, if_neg e0]
    rw [hT, mtk_no (Or.inl e0)]; exact ⟨rfl, hs⟩
  obtain ⟨u1, u2, u3, u4⟩ := t7 e0
  obtain ⟨g1, g2, g3⟩ := hd
  obtain ⟨x1, x2, x3, x4, x5, x6⟩ := g3 (m 0) u2.1 u2.2
  by_cases e4 : key = 4
  · subst e4
    have hT : tkS h D T 4 = gdS h D T := by unfold tkS; rw [t4, if_pos e0, if_pos rfl]
    rw [hT]
    unfold gdS
    rw [u1, x4, t1]
    by_cases c : m 1 = s 17 (3 * d + m 0) 0
    case neg => rw [if_neg c, mtk_no (Or.inr (Or.inl ⟨rfl, c⟩))]; exact ⟨rfl, hs⟩
    rw [if_pos c, mtk_dn e0 c]
    by_cases c3 : 3 ≤ m 0 + 1
    · have c4 : m 0 + 1 = 3 := by omega
      rw [if_pos c3]
      refine ⟨rfl, ?_⟩
      unfold mdn
      rw [if_pos c4, if_pos c4]
      refine ⟨?_, ?_, ?_, ?_, ?_, ?_, ?_⟩
      · simp [upq, t1]
      · simp [upq, t2]
      · simp [upq, t3]
      · simp [upq]
      · simpa [upq] using t5
      · simp [upq, wr_wr]
      · intro q; simp [upq] at q
    · have c4 : ¬ m 0 + 1 = 3 := by omega
      rw [if_neg c3]
      refine ⟨rfl, ?_⟩
      obtain ⟨y1, y2, y3, y4, y5, y6⟩ := g3 (m 0 + 1) (by omega) (by omega)
      have en : entS s d (m 0 + 1) = m 1 := by
        unfold entS
        rw [if_neg (by omega), show 3 * d + (m 0 + 1) - 1 = 3 * d + m 0 by omega]; exact c.symm
      unfold mdn enS
      rw [if_neg c4, if_neg c4, y5, y3, y2, en, Int.add_zero, t6]
      refine ⟨?_, ?_, ?_, ?_, ?_, ?_, ?_⟩
      · simp [upq]
      · simp [upq, t2]
      · simp [upq, t3]
      · simp [upq, t4]
      · simpa [upq] using t5
      · simp [upq, t6]
      · intro _
        refine ⟨by simp [upq], by simp [upq]; omega, fun r r0 r1 => ?_, fun r r0 r1 => ?_⟩
        · simp only [upq, Nat.reduceEqDiff, if_true, if_false]
          rw [bt_0 r0 (by omega), if_neg (show ¬ (0 : Int) = 1 by decide), if_pos (show 0 ≤ r ∧ r < 16 from ⟨r0, r1⟩)]
        · simp only [upq, Nat.reduceEqDiff, if_true, if_false]
          rw [bt_0 r0 (by omega), if_neg (by decide)]
  · by_cases e5 : key = 5
    · subst e5
      have hT : tkS h D T 5 = (1, (upq (upq T.1 705 (if s 13 d 4 < wr (m 2 + s 13 d 5) then s 13 d 4 else wr (m 2 + s 13 d 5))) 706 (wr (m 3 + -1)), T.2)) := by
        unfold tkS; rw [t4, if_pos e0, if_neg (by decide), if_pos rfl, g1, g2, t2, t3]
      rw [hT, mtk_rs e0]
      refine ⟨rfl, ?_⟩
      unfold mrs
      refine ⟨?_, ?_, ?_, ?_, ?_, ?_, ?_⟩
      · simp [upq, t1]
      · simp [upq]
      · simp [upq]; rfl
      · simp [upq, t4]
      · simpa [upq] using t5
      · simp [upq, wr_wr]
      · intro _
        refine ⟨by simp [upq, u1], by simp [upq]; omega, fun r r0 r1 => ?_, fun r r0 r1 => ?_⟩
        · simp only [upq, Nat.reduceEqDiff, if_false]; exact u3 r r0 r1
        · simp only [upq, Nat.reduceEqDiff, if_false]; exact u4 r r0 r1
    · have k4 : key < 4 := by omega
      have hT : tkS h D T key = goS h D T key := by unfold tkS; rw [t4, if_pos e0, if_neg e4, if_neg e5]
      rw [hT]
      unfold goS
      rw [u1, x1, t1]
      by_cases c : bt (s 14 (3 * d + m 0) (m 1)) key = 0
      · have cb : bhd (s 14 (3 * d + m 0)) (m 1) key = -1 := by rw [bhd, if_pos c]
        rw [if_pos cb, mtk_no (Or.inr (Or.inr ⟨k4, c⟩))]
        exact ⟨rfl, hs⟩
      · have cn := x6 (m 1) key t5.1 t5.2 k0 k4 c
        have cb : bhd (s 14 (3 * d + m 0)) (m 1) key = nb (m 1) key := by rw [bhd, if_neg c]
        rw [cb, if_neg cn, mtk_go e0 k4 c]
        refine ⟨rfl, ?_⟩
        have nr := (nb_r (d := key) t5.1 t5.2).resolve_left cn
        generalize nb (m 1) key = n at *
        have b5 := bt_01 (b := m 5) nr.1 (show n < 32 by omega)
        have b6 := bt_01 (b := m 6) nr.1 (show n < 32 by omega)
        have b16 := bt_01 (b := s 16 (3 * d + m 0) 0) nr.1 (show n < 32 by omega)
        obtain ⟨v1, v2, v3, v4, v5, v6, v7⟩ := fgS_1 (S := (upq T.1 704 n, T.2))
        simp only [upq, Nat.reduceEqDiff, if_true, if_false] at v1 v2 v3 v4 v5 v6 v7
        have st : T.2 n = mst s (3 * d + m 0) (upq m 1 n) := by
          unfold mst
          rw [upq_s, upq_n (by decide)]
          exact u3 n nr.1 nr.2
        have c1 : mc1 s (3 * d + m 0) (upq m 1 n) 2 = wr (m 2 - T.2 n) := by unfold mc1; rw [← st]; simp [upq]
        have c2 : mc1 s (3 * d + m 0) (upq m 1 n) 3 = wr (m 3 + T.2 n) := by unfold mc1; rw [← st]; simp [upq]
        have c3 : mc1 s (3 * d + m 0) (upq m 1 n) 5 = ior (m 5) (ishl 1 n) := by unfold mc1; simp [upq]
        have c4 : mc1 s (3 * d + m 0) (upq m 1 n) 1 = n := by unfold mc1; simp [upq]
        have c5 : mc1 s (3 * d + m 0) (upq m 1 n) 0 = m 0 := by unfold mc1; simp [upq]
        have c6 : mc1 s (3 * d + m 0) (upq m 1 n) 4 = m 4 := by unfold mc1; simp [upq]
        have c7 : mc1 s (3 * d + m 0) (upq m 1 n) 6 = m 6 := by unfold mc1; simp [upq]
        rw [t2] at v1 v6
        rw [t3] at v2
        rw [t4, e0] at v6
        rw [u1] at v4
        dsimp only
        generalize hF : fgS (upq T.1 704 n, T.2) = F at v1 v2 v3 v4 v5 v6 v7 ⊢
        generalize hM : mc1 s (3 * d + m 0) (upq m 1 n) = M at c1 c2 c3 c4 c5 c6 c7
        have fo : ∀ r, 0 ≤ r → r < 16 → F.2 r = if bt (M 5) r = 1 then 0 else s 15 (3 * d + m 0) r := by
          intro r r0 r1
          rw [v7, c3, bt_set nr.1 (by omega) r0 (by omega)]
          simp only [fu]
          by_cases q : r = n
          · rw [if_pos q, if_pos q, if_pos rfl]
          · rw [if_neg q, if_neg q]; exact u3 r r0 r1
        unfold mcm
        rw [hM, c1]
        by_cases l : wr (m 2 - T.2 n) ≤ 0
        · rw [if_pos l]
          rw [if_neg (by omega)] at v6
          rw [if_pos v6]
          refine ⟨?_, ?_, ?_, ?_, ?_, ?_, ?_⟩
          · rw [v3, upq_n (by decide), c4]
          · rw [v1, upq_n (by decide), c1]
          · rw [v2, upq_n (by decide), c2]
          · rw [v6, upq_s]
          · rw [upq_n (by decide), c4]; exact nr
          · rw [upq_n (by decide), c2, wr_wr]
          · intro q; rw [upq_s] at q; exact absurd q (by decide)
        · rw [if_neg l]
          rw [if_pos (by omega)] at v6
          rw [if_neg (by omega), upq_s, upq_n (show (6 : Nat) ≠ 1 by decide)]
          have u4n := u4 n nr.1 nr.2
          unfold ttS
          rw [v5, v3, v2]
          by_cases tk : bt (s 16 (3 * d + m 0) 0) n = 1 ∧ bt (m 6) n = 0
          · rw [if_neg (by rw [if_neg (by omega)] at u4n; omega), if_pos tk, c2]
            refine ⟨?_, ?_, ?_, ?_, ?_, ?_, ?_⟩
            · simp only [upq, Nat.reduceEqDiff, if_false]; rw [v3, c4]
            · simp only [upq, Nat.reduceEqDiff, if_false]; rw [v1, c1]
            · simp only [upq, Nat.reduceEqDiff, if_true]
            · simp only [upq, Nat.reduceEqDiff, if_false]; rw [v6, c6, e0]
            · simp only [upq, Nat.reduceEqDiff, if_false]; rw [c4]; exact nr
            · simp only [upq, Nat.reduceEqDiff, if_true]; rw [wr_wr]
            · intro _
              simp only [upq, Nat.reduceEqDiff, if_true, if_false]
              rw [c5, v4]
              refine ⟨rfl, u2, fo, fun r r0 r1 => ?_⟩
              rw [bt_clr nr.1 (by omega) r0 (by omega), bt_set nr.1 (by omega) r0 (by omega), u4 r r0 r1]
              by_cases q : r = n
              · rw [if_pos q, if_pos q, if_pos rfl]
              · rw [if_neg q, if_neg q]
          · rw [if_pos (by rw [u4n]; split <;> omega), if_neg tk]
            refine ⟨by rw [v3, c4], by rw [v1, c1], by rw [v2, c2], by rw [v6, c6, e0], by rw [c4]; exact nr, by rw [c2, wr_wr], fun _ => ?_⟩
            rw [c5, v4, c7]
            refine ⟨rfl, u2, fo, fun r r0 r1 => ?_⟩
            rw [v5]; exact u4 r r0 r1
