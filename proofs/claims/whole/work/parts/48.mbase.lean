/-! ===== the model: its memory as fields and rows T k j ===== -/
abbrev mT : Type := Nat → Int → Int
def tu (T : mT) (k : Nat) (j v : Int) : mT := fun k' j' => if k' = k ∧ j' = j then v else T k' j'
theorem tu_k {T : mT} {k k' : Nat} {j v : Int} (e : k' ≠ k) : tu T k j v k' = T k' := by funext j'; exact if_neg (fun q => e q.1)
theorem tu_s {T : mT} {k : Nat} {j v : Int} : tu T k j v k j = v := if_pos ⟨rfl, rfl⟩
theorem tu_n {T : mT} {k : Nat} {j j' v : Int} (e : j' ≠ j) : tu T k j v k j' = T k j' := if_neg (fun q => e q.2)
def mL : Nat → Int
  | 2 => 10
  | 3 => 40
  | 4 => 40
  | 5 => 40
  | 6 => 10
  | 8 => 30
  | 9 => 30
  | 10 => 60
  | 12 => 6
  | 13 => 10
  | 16 => 20
  | 17 => 120
  | 18 => 960
  | 19 => 960
  | 20 => 60
  | 21 => 60
  | 23 => 16
  | 24 => 16
  | 26 => 60
  | 27 => 3600
  | 28 => 60
  | 29 => 60
  | 30 => 60
  | 31 => 60
  | _ => 0
def mW (k : Nat) : Nat := if k = 4 then 11 else 10
theorem mW_c (k : Nat) : mW k = 10 ∨ mW k = 11 := by unfold mW; split <;> simp
def tv (h : ac_H) (m : Int) : mT := fun k j => if mL k = 0 then h (1000 + k) m j else h (mW k) (h (1000 + k) m 0) j
theorem tv_f {h : ac_H} {m : Int} {k : Nat} {j : Int} (q : mL k = 0) : tv h m k j = h (1000 + k) m j := if_pos q
theorem tv_a {h : ac_H} {m : Int} {k : Nat} {j : Int} (q : ¬ mL k = 0) : tv h m k j = h (mW k) (h (1000 + k) m 0) j := if_neg q
def MK (h : ac_H) (m : Int) : Prop := 0 < m ∧ h 0 m 0 = 29 ∧ (∀ k, mL k ≠ 0 → 0 < h (1000 + k) m 0 ∧ h 0 (h (1000 + k) m 0) 0 = mW k ∧ h 1 (h (1000 + k) m 0) 0 = mL k) ∧ ∀ k k', mL k ≠ 0 → mL k' ≠ 0 → h (1000 + k) m 0 = h (1000 + k') m 0 → k = k'
/-- from h to h' only the model's words have changed; they are T now -/
def MT (h h' : ac_H) (m : Int) (T : mT) : Prop := MK h' m ∧ tv h' m = T ∧ (∀ k, mL k ≠ 0 → h' (1000 + k) m 0 = h (1000 + k) m 0) ∧ ∀ k y z, ¬ (1000 ≤ k ∧ y = m) → ¬ ((k = 10 ∨ k = 11) ∧ ∃ i, mL i ≠ 0 ∧ y = h (1000 + i) m 0) → h' k y z = h k y z
theorem mt_0 {h : ac_H} {m : Int} (hK : MK h m) : MT h h m (tv h m) := ⟨hK, rfl, fun _ _ => rfl, fun _ _ _ _ _ => rfl⟩
theorem mt_tr {h h1 h2 : ac_H} {m : Int} {T1 T2 : mT} (a : MT h h1 m T1) (b : MT h1 h2 m T2) : MT h h2 m T2 := by
  refine ⟨b.1, b.2.1, fun k hk => (b.2.2.1 k hk).trans (a.2.2.1 k hk), fun k y z e1 e2 => ?_⟩
  rw [b.2.2.2 k y z e1 ?_, a.2.2.2 k y z e1 e2]
  rintro ⟨q, i, hi, e⟩
  exact e2 ⟨q, i, hi, e.trans (a.2.2.1 i hi)⟩
theorem mt_ne {h : ac_H} {m : Int} (hK : MK h m) {k : Nat} (hk : mL k ≠ 0) : h (1000 + k) m 0 ≠ m := by
  intro e
  have := (hK.2.2.1 k hk).2.1
  rw [e, hK.2.1] at this
  rcases mW_c k with q | q <;> rw [q] at this <;> exact absurd this (by decide)
theorem mt_f {h0 h : ac_H} {m : Int} {T : mT} (k : Nat) (hM : MT h0 h m T) (hk : mL k = 0) {v : Int} : MT h0 (up h (1000 + k) m 0 v) m (tu T k 0 v) := by
  obtain ⟨⟨m0, mk, mr, md⟩, e, hf, hx⟩ := hM
  have hw : ∀ k', mL k' ≠ 0 → up h (1000 + k) m 0 v (1000 + k') m 0 = h (1000 + k') m 0 := fun k' hk' => up_k (by intro q; exact hk' (by rw [show k' = k by omega]; exact hk))
  refine ⟨⟨m0, ?_, fun k' hk' => ?_, fun k1 k2 h1 h2 => ?_⟩, ?_, fun k' hk' => (hw k' hk').trans (hf k' hk'), fun k' y z e1 e2 => ?_⟩
  · rw [up_k (by omega)]; exact mk
  · rw [hw k' hk', up_k (by omega), up_k (by omega)]; exact mr k' hk'
  · rw [hw k1 h1, hw k2 h2]; exact md k1 k2 h1 h2
  · rw [← e]
    funext k' j'
    show tv _ m k' j' = if k' = k ∧ j' = 0 then v else tv h m k' j'
    by_cases q : mL k' = 0
    · rw [tv_f q, tv_f q]
      unfold up
      by_cases q2 : k' = k
      · subst q2; simp
      · have : ¬ (1000 + k' = 1000 + k) := by omega
        simp [q2]
    · rw [tv_a q, tv_a q, hw k' q, up_k (by rcases mW_c k' with r | r <;> rw [r] <;> omega), if_neg]
      rintro ⟨rfl, -⟩
      exact q hk
  · rw [up_ne, hx k' y z e1 e2]
    rintro ⟨rfl, rfl, -⟩
    exact e1 ⟨by omega, rfl⟩
theorem mt_a {h0 h : ac_H} {m a : Int} {T : mT} (k : Nat) (hM : MT h0 h m T) (hk : mL k ≠ 0) (ha : a = h (1000 + k) m 0) {j v : Int} : MT h0 (up h (mW k) a j v) m (tu T k j v) := by
  obtain ⟨⟨m0, mk, mr, md⟩, e, hf, hx⟩ := hM
  have wk : mW k = 10 ∨ mW k = 11 := mW_c k
  have hw : ∀ k' z, up h (mW k) a j v (1000 + k') m z = h (1000 + k') m z := fun k' z => up_k (by omega)
  refine ⟨⟨m0, ?_, fun k' hk' => ?_, fun k1 k2 h1 h2 => ?_⟩, ?_, fun k' hk' => (hw k' _).trans (hf k' hk'), fun k' y z e1 e2 => ?_⟩
  · rw [up_k (by omega)]; exact mk
  · rw [hw k' _, up_k (by omega), up_k (by omega)]; exact mr k' hk'
  · rw [hw k1 _, hw k2 _]; exact md k1 k2 h1 h2
  · rw [← e]
    funext k' j'
    show tv _ m k' j' = if k' = k ∧ j' = j then v else tv h m k' j'
    by_cases q : mL k' = 0
    · rw [tv_f q, tv_f q, hw, if_neg]
      rintro ⟨rfl, -⟩
      exact hk q
    · rw [tv_a q, tv_a q, hw]
      by_cases q2 : k' = k
      · subst q2
        unfold up
        simp [ha]
      · rw [up_a, if_neg (fun w => q2 w.1)]
        intro w
        exact q2 (md k' k q hk (w.trans ha))
  · rw [up_ne, hx k' y z e1 e2]
    rintro ⟨rfl, rfl, -⟩
    exact e2 ⟨wk, k, hk, ha.trans (hf k hk)⟩
theorem mt_K {h0 h : ac_H} {m : Int} {T : mT} (hM : MT h0 h m T) : MK h m := hM.1
theorem mt_T {h0 h : ac_H} {m : Int} {T : mT} (hM : MT h0 h m T) : tv h m = T := hM.2.1
theorem mt_k {h0 h : ac_H} {m : Int} {T : mT} (hM : MT h0 h m T) : h 0 m 0 = 29 := hM.1.2.1
theorem mt_p {h0 h : ac_H} {m : Int} {T : mT} (hM : MT h0 h m T) : 0 < m := hM.1.1
theorem mt_d {h0 h : ac_H} {m : Int} {T : mT} (hM : MT h0 h m T) (k k' : Nat) (a : mL k ≠ 0) (b : mL k' ≠ 0) (c : k ≠ k') : h (1000 + k) m 0 ≠ h (1000 + k') m 0 := fun e => c (hM.1.2.2.2 k k' a b e)
theorem mr_0 {h0 h : ac_H} {m : Int} {T : mT} (hM : MT h0 h m T) (j : Int) : h 1000 m j = T 0 j := by rw [← mt_T hM]; rfl
theorem mr_1 {h0 h : ac_H} {m : Int} {T : mT} (hM : MT h0 h m T) (j : Int) : h 1001 m j = T 1 j := by rw [← mt_T hM]; rfl
theorem mr_2 {h0 h : ac_H} {m : Int} {T : mT} (hM : MT h0 h m T) (j : Int) : h 10 (h 1002 m 0) j = T 2 j := by rw [← mt_T hM]; rfl
theorem mk_2 {h0 h : ac_H} {m : Int} {T : mT} (hM : MT h0 h m T) : h 0 (h 1002 m 0) 0 = 10 := (hM.1.2.2.1 2 (by decide)).2.1
theorem ml_2 {h0 h : ac_H} {m : Int} {T : mT} (hM : MT h0 h m T) : h 1 (h 1002 m 0) 0 = 10 := (hM.1.2.2.1 2 (by decide)).2.2
theorem mr_3 {h0 h : ac_H} {m : Int} {T : mT} (hM : MT h0 h m T) (j : Int) : h 10 (h 1003 m 0) j = T 3 j := by rw [← mt_T hM]; rfl
theorem mk_3 {h0 h : ac_H} {m : Int} {T : mT} (hM : MT h0 h m T) : h 0 (h 1003 m 0) 0 = 10 := (hM.1.2.2.1 3 (by decide)).2.1
theorem ml_3 {h0 h : ac_H} {m : Int} {T : mT} (hM : MT h0 h m T) : h 1 (h 1003 m 0) 0 = 40 := (hM.1.2.2.1 3 (by decide)).2.2
theorem mr_4 {h0 h : ac_H} {m : Int} {T : mT} (hM : MT h0 h m T) (j : Int) : h 11 (h 1004 m 0) j = T 4 j := by rw [← mt_T hM]; rfl
theorem mk_4 {h0 h : ac_H} {m : Int} {T : mT} (hM : MT h0 h m T) : h 0 (h 1004 m 0) 0 = 11 := (hM.1.2.2.1 4 (by decide)).2.1
theorem ml_4 {h0 h : ac_H} {m : Int} {T : mT} (hM : MT h0 h m T) : h 1 (h 1004 m 0) 0 = 40 := (hM.1.2.2.1 4 (by decide)).2.2
theorem mr_5 {h0 h : ac_H} {m : Int} {T : mT} (hM : MT h0 h m T) (j : Int) : h 10 (h 1005 m 0) j = T 5 j := by rw [← mt_T hM]; rfl
theorem mk_5 {h0 h : ac_H} {m : Int} {T : mT} (hM : MT h0 h m T) : h 0 (h 1005 m 0) 0 = 10 := (hM.1.2.2.1 5 (by decide)).2.1
theorem ml_5 {h0 h : ac_H} {m : Int} {T : mT} (hM : MT h0 h m T) : h 1 (h 1005 m 0) 0 = 40 := (hM.1.2.2.1 5 (by decide)).2.2
theorem mr_6 {h0 h : ac_H} {m : Int} {T : mT} (hM : MT h0 h m T) (j : Int) : h 10 (h 1006 m 0) j = T 6 j := by rw [← mt_T hM]; rfl
theorem mk_6 {h0 h : ac_H} {m : Int} {T : mT} (hM : MT h0 h m T) : h 0 (h 1006 m 0) 0 = 10 := (hM.1.2.2.1 6 (by decide)).2.1
theorem ml_6 {h0 h : ac_H} {m : Int} {T : mT} (hM : MT h0 h m T) : h 1 (h 1006 m 0) 0 = 10 := (hM.1.2.2.1 6 (by decide)).2.2
theorem mr_7 {h0 h : ac_H} {m : Int} {T : mT} (hM : MT h0 h m T) (j : Int) : h 1007 m j = T 7 j := by rw [← mt_T hM]; rfl
theorem mr_8 {h0 h : ac_H} {m : Int} {T : mT} (hM : MT h0 h m T) (j : Int) : h 10 (h 1008 m 0) j = T 8 j := by rw [← mt_T hM]; rfl
theorem mk_8 {h0 h : ac_H} {m : Int} {T : mT} (hM : MT h0 h m T) : h 0 (h 1008 m 0) 0 = 10 := (hM.1.2.2.1 8 (by decide)).2.1
theorem ml_8 {h0 h : ac_H} {m : Int} {T : mT} (hM : MT h0 h m T) : h 1 (h 1008 m 0) 0 = 30 := (hM.1.2.2.1 8 (by decide)).2.2
theorem mr_9 {h0 h : ac_H} {m : Int} {T : mT} (hM : MT h0 h m T) (j : Int) : h 10 (h 1009 m 0) j = T 9 j := by rw [← mt_T hM]; rfl
theorem mk_9 {h0 h : ac_H} {m : Int} {T : mT} (hM : MT h0 h m T) : h 0 (h 1009 m 0) 0 = 10 := (hM.1.2.2.1 9 (by decide)).2.1
theorem ml_9 {h0 h : ac_H} {m : Int} {T : mT} (hM : MT h0 h m T) : h 1 (h 1009 m 0) 0 = 30 := (hM.1.2.2.1 9 (by decide)).2.2
theorem mr_10 {h0 h : ac_H} {m : Int} {T : mT} (hM : MT h0 h m T) (j : Int) : h 10 (h 1010 m 0) j = T 10 j := by rw [← mt_T hM]; rfl
theorem mk_10 {h0 h : ac_H} {m : Int} {T : mT} (hM : MT h0 h m T) : h 0 (h 1010 m 0) 0 = 10 := (hM.1.2.2.1 10 (by decide)).2.1
theorem ml_10 {h0 h : ac_H} {m : Int} {T : mT} (hM : MT h0 h m T) : h 1 (h 1010 m 0) 0 = 60 := (hM.1.2.2.1 10 (by decide)).2.2
theorem mr_11 {h0 h : ac_H} {m : Int} {T : mT} (hM : MT h0 h m T) (j : Int) : h 1011 m j = T 11 j := by rw [← mt_T hM]; rfl
theorem mr_12 {h0 h : ac_H} {m : Int} {T : mT} (hM : MT h0 h m T) (j : Int) : h 10 (h 1012 m 0) j = T 12 j := by rw [← mt_T hM]; rfl
theorem mk_12 {h0 h : ac_H} {m : Int} {T : mT} (hM : MT h0 h m T) : h 0 (h 1012 m 0) 0 = 10 := (hM.1.2.2.1 12 (by decide)).2.1
theorem ml_12 {h0 h : ac_H} {m : Int} {T : mT} (hM : MT h0 h m T) : h 1 (h 1012 m 0) 0 = 6 := (hM.1.2.2.1 12 (by decide)).2.2
theorem mr_13 {h0 h : ac_H} {m : Int} {T : mT} (hM : MT h0 h m T) (j : Int) : h 10 (h 1013 m 0) j = T 13 j := by rw [← mt_T hM]; rfl
theorem mk_13 {h0 h : ac_H} {m : Int} {T : mT} (hM : MT h0 h m T) : h 0 (h 1013 m 0) 0 = 10 := (hM.1.2.2.1 13 (by decide)).2.1
theorem ml_13 {h0 h : ac_H} {m : Int} {T : mT} (hM : MT h0 h m T) : h 1 (h 1013 m 0) 0 = 10 := (hM.1.2.2.1 13 (by decide)).2.2
theorem mr_14 {h0 h : ac_H} {m : Int} {T : mT} (hM : MT h0 h m T) (j : Int) : h 1014 m j = T 14 j := by rw [← mt_T hM]; rfl
theorem mr_15 {h0 h : ac_H} {m : Int} {T : mT} (hM : MT h0 h m T) (j : Int) : h 1015 m j = T 15 j := by rw [← mt_T hM]; rfl
theorem mr_16 {h0 h : ac_H} {m : Int} {T : mT} (hM : MT h0 h m T) (j : Int) : h 10 (h 1016 m 0) j = T 16 j := by rw [← mt_T hM]; rfl
theorem mk_16 {h0 h : ac_H} {m : Int} {T : mT} (hM : MT h0 h m T) : h 0 (h 1016 m 0) 0 = 10 := (hM.1.2.2.1 16 (by decide)).2.1
theorem ml_16 {h0 h : ac_H} {m : Int} {T : mT} (hM : MT h0 h m T) : h 1 (h 1016 m 0) 0 = 20 := (hM.1.2.2.1 16 (by decide)).2.2
theorem mr_17 {h0 h : ac_H} {m : Int} {T : mT} (hM : MT h0 h m T) (j : Int) : h 10 (h 1017 m 0) j = T 17 j := by rw [← mt_T hM]; rfl
theorem mk_17 {h0 h : ac_H} {m : Int} {T : mT} (hM : MT h0 h m T) : h 0 (h 1017 m 0) 0 = 10 := (hM.1.2.2.1 17 (by decide)).2.1
theorem ml_17 {h0 h : ac_H} {m : Int} {T : mT} (hM : MT h0 h m T) : h 1 (h 1017 m 0) 0 = 120 := (hM.1.2.2.1 17 (by decide)).2.2
theorem mr_18 {h0 h : ac_H} {m : Int} {T : mT} (hM : MT h0 h m T) (j : Int) : h 10 (h 1018 m 0) j = T 18 j := by rw [← mt_T hM]; rfl
theorem mk_18 {h0 h : ac_H} {m : Int} {T : mT} (hM : MT h0 h m T) : h 0 (h 1018 m 0) 0 = 10 := (hM.1.2.2.1 18 (by decide)).2.1
theorem ml_18 {h0 h : ac_H} {m : Int} {T : mT} (hM : MT h0 h m T) : h 1 (h 1018 m 0) 0 = 960 := (hM.1.2.2.1 18 (by decide)).2.2
theorem mr_19 {h0 h : ac_H} {m : Int} {T : mT} (hM : MT h0 h m T) (j : Int) : h 10 (h 1019 m 0) j = T 19 j := by rw [← mt_T hM]; rfl
theorem mk_19 {h0 h : ac_H} {m : Int} {T : mT} (hM : MT h0 h m T) : h 0 (h 1019 m 0) 0 = 10 := (hM.1.2.2.1 19 (by decide)).2.1
theorem ml_19 {h0 h : ac_H} {m : Int} {T : mT} (hM : MT h0 h m T) : h 1 (h 1019 m 0) 0 = 960 := (hM.1.2.2.1 19 (by decide)).2.2
theorem mr_20 {h0 h : ac_H} {m : Int} {T : mT} (hM : MT h0 h m T) (j : Int) : h 10 (h 1020 m 0) j = T 20 j := by rw [← mt_T hM]; rfl
theorem mk_20 {h0 h : ac_H} {m : Int} {T : mT} (hM : MT h0 h m T) : h 0 (h 1020 m 0) 0 = 10 := (hM.1.2.2.1 20 (by decide)).2.1
theorem ml_20 {h0 h : ac_H} {m : Int} {T : mT} (hM : MT h0 h m T) : h 1 (h 1020 m 0) 0 = 60 := (hM.1.2.2.1 20 (by decide)).2.2
theorem mr_21 {h0 h : ac_H} {m : Int} {T : mT} (hM : MT h0 h m T) (j : Int) : h 10 (h 1021 m 0) j = T 21 j := by rw [← mt_T hM]; rfl
theorem mk_21 {h0 h : ac_H} {m : Int} {T : mT} (hM : MT h0 h m T) : h 0 (h 1021 m 0) 0 = 10 := (hM.1.2.2.1 21 (by decide)).2.1
theorem ml_21 {h0 h : ac_H} {m : Int} {T : mT} (hM : MT h0 h m T) : h 1 (h 1021 m 0) 0 = 60 := (hM.1.2.2.1 21 (by decide)).2.2
theorem mr_22 {h0 h : ac_H} {m : Int} {T : mT} (hM : MT h0 h m T) (j : Int) : h 1022 m j = T 22 j := by rw [← mt_T hM]; rfl
theorem mr_23 {h0 h : ac_H} {m : Int} {T : mT} (hM : MT h0 h m T) (j : Int) : h 10 (h 1023 m 0) j = T 23 j := by rw [← mt_T hM]; rfl
theorem mk_23 {h0 h : ac_H} {m : Int} {T : mT} (hM : MT h0 h m T) : h 0 (h 1023 m 0) 0 = 10 := (hM.1.2.2.1 23 (by decide)).2.1
theorem ml_23 {h0 h : ac_H} {m : Int} {T : mT} (hM : MT h0 h m T) : h 1 (h 1023 m 0) 0 = 16 := (hM.1.2.2.1 23 (by decide)).2.2
theorem mr_24 {h0 h : ac_H} {m : Int} {T : mT} (hM : MT h0 h m T) (j : Int) : h 10 (h 1024 m 0) j = T 24 j := by rw [← mt_T hM]; rfl
theorem mk_24 {h0 h : ac_H} {m : Int} {T : mT} (hM : MT h0 h m T) : h 0 (h 1024 m 0) 0 = 10 := (hM.1.2.2.1 24 (by decide)).2.1
theorem ml_24 {h0 h : ac_H} {m : Int} {T : mT} (hM : MT h0 h m T) : h 1 (h 1024 m 0) 0 = 16 := (hM.1.2.2.1 24 (by decide)).2.2
theorem mr_25 {h0 h : ac_H} {m : Int} {T : mT} (hM : MT h0 h m T) (j : Int) : h 1025 m j = T 25 j := by rw [← mt_T hM]; rfl
theorem mr_26 {h0 h : ac_H} {m : Int} {T : mT} (hM : MT h0 h m T) (j : Int) : h 10 (h 1026 m 0) j = T 26 j := by rw [← mt_T hM]; rfl
theorem mk_26 {h0 h : ac_H} {m : Int} {T : mT} (hM : MT h0 h m T) : h 0 (h 1026 m 0) 0 = 10 := (hM.1.2.2.1 26 (by decide)).2.1
theorem ml_26 {h0 h : ac_H} {m : Int} {T : mT} (hM : MT h0 h m T) : h 1 (h 1026 m 0) 0 = 60 := (hM.1.2.2.1 26 (by decide)).2.2
theorem mr_27 {h0 h : ac_H} {m : Int} {T : mT} (hM : MT h0 h m T) (j : Int) : h 10 (h 1027 m 0) j = T 27 j := by rw [← mt_T hM]; rfl
theorem mk_27 {h0 h : ac_H} {m : Int} {T : mT} (hM : MT h0 h m T) : h 0 (h 1027 m 0) 0 = 10 := (hM.1.2.2.1 27 (by decide)).2.1
theorem ml_27 {h0 h : ac_H} {m : Int} {T : mT} (hM : MT h0 h m T) : h 1 (h 1027 m 0) 0 = 3600 := (hM.1.2.2.1 27 (by decide)).2.2
theorem mr_28 {h0 h : ac_H} {m : Int} {T : mT} (hM : MT h0 h m T) (j : Int) : h 10 (h 1028 m 0) j = T 28 j := by rw [← mt_T hM]; rfl
theorem mk_28 {h0 h : ac_H} {m : Int} {T : mT} (hM : MT h0 h m T) : h 0 (h 1028 m 0) 0 = 10 := (hM.1.2.2.1 28 (by decide)).2.1
theorem ml_28 {h0 h : ac_H} {m : Int} {T : mT} (hM : MT h0 h m T) : h 1 (h 1028 m 0) 0 = 60 := (hM.1.2.2.1 28 (by decide)).2.2
theorem mr_29 {h0 h : ac_H} {m : Int} {T : mT} (hM : MT h0 h m T) (j : Int) : h 10 (h 1029 m 0) j = T 29 j := by rw [← mt_T hM]; rfl
theorem mk_29 {h0 h : ac_H} {m : Int} {T : mT} (hM : MT h0 h m T) : h 0 (h 1029 m 0) 0 = 10 := (hM.1.2.2.1 29 (by decide)).2.1
theorem ml_29 {h0 h : ac_H} {m : Int} {T : mT} (hM : MT h0 h m T) : h 1 (h 1029 m 0) 0 = 60 := (hM.1.2.2.1 29 (by decide)).2.2
theorem mr_30 {h0 h : ac_H} {m : Int} {T : mT} (hM : MT h0 h m T) (j : Int) : h 10 (h 1030 m 0) j = T 30 j := by rw [← mt_T hM]; rfl
theorem mk_30 {h0 h : ac_H} {m : Int} {T : mT} (hM : MT h0 h m T) : h 0 (h 1030 m 0) 0 = 10 := (hM.1.2.2.1 30 (by decide)).2.1
theorem ml_30 {h0 h : ac_H} {m : Int} {T : mT} (hM : MT h0 h m T) : h 1 (h 1030 m 0) 0 = 60 := (hM.1.2.2.1 30 (by decide)).2.2
theorem mr_31 {h0 h : ac_H} {m : Int} {T : mT} (hM : MT h0 h m T) (j : Int) : h 10 (h 1031 m 0) j = T 31 j := by rw [← mt_T hM]; rfl
theorem mk_31 {h0 h : ac_H} {m : Int} {T : mT} (hM : MT h0 h m T) : h 0 (h 1031 m 0) 0 = 10 := (hM.1.2.2.1 31 (by decide)).2.1
theorem ml_31 {h0 h : ac_H} {m : Int} {T : mT} (hM : MT h0 h m T) : h 1 (h 1031 m 0) 0 = 60 := (hM.1.2.2.1 31 (by decide)).2.2
theorem mr_32 {h0 h : ac_H} {m : Int} {T : mT} (hM : MT h0 h m T) (j : Int) : h 1032 m j = T 32 j := by rw [← mt_T hM]; rfl
theorem mr_33 {h0 h : ac_H} {m : Int} {T : mT} (hM : MT h0 h m T) (j : Int) : h 1033 m j = T 33 j := by rw [← mt_T hM]; rfl
theorem mr_34 {h0 h : ac_H} {m : Int} {T : mT} (hM : MT h0 h m T) (j : Int) : h 1034 m j = T 34 j := by rw [← mt_T hM]; rfl
theorem mr_35 {h0 h : ac_H} {m : Int} {T : mT} (hM : MT h0 h m T) (j : Int) : h 1035 m j = T 35 j := by rw [← mt_T hM]; rfl
theorem mr_36 {h0 h : ac_H} {m : Int} {T : mT} (hM : MT h0 h m T) (j : Int) : h 1036 m j = T 36 j := by rw [← mt_T hM]; rfl
theorem mr_37 {h0 h : ac_H} {m : Int} {T : mT} (hM : MT h0 h m T) (j : Int) : h 1037 m j = T 37 j := by rw [← mt_T hM]; rfl
theorem mr_38 {h0 h : ac_H} {m : Int} {T : mT} (hM : MT h0 h m T) (j : Int) : h 1038 m j = T 38 j := by rw [← mt_T hM]; rfl
theorem mr_39 {h0 h : ac_H} {m : Int} {T : mT} (hM : MT h0 h m T) (j : Int) : h 1039 m j = T 39 j := by rw [← mt_T hM]; rfl
