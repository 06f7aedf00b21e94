/-! ===== orders and rules by the state ===== -/
theorem fnd_congr {P Q : Int → Bool} : ∀ n : Nat, (∀ i : Int, 0 ≤ i → i < n → P i = Q i) → fnd P n = fnd Q n
  | 0, _ => rfl
  | n + 1, h => by
    rw [fnd, fnd, fnd_congr n (fun i a b => h i a (by omega)), h n (by omega) (by omega)]
theorem nx_congr {nd nd' : Int → Int} {c w st : Int} (h : ∀ i, 0 ≤ i → i < c → nd i = nd' i) : nx nd c w st = nx nd' c w st := by
  unfold nx
  exact fnd_congr _ fun i a b => by rw [h i a (by omega)]
theorem stp_congr {nd nd' : Int → Int} {c set : Int} (h : ∀ i, 0 ≤ i → i < c → nd i = nd' i) : ∀ n, stp nd c set n = stp nd' c set n
  | 0 => rfl
  | n + 1 => by rw [stp, stp, stp_congr h n, nx_congr h]
theorem ore_congr {nd nd' : Int → Int} {c set : Int} (h : ∀ i, 0 ≤ i → i < c → nd i = nd' i) (n : Nat) : ore nd c set n = ore nd' c set n := by
  rw [ore, ore, stp_congr h n, nx_congr h]
theorem orN_congr {nd nd' : Int → Int} {c set : Int} {n : Nat} (h : ∀ i, 0 ≤ i → i < c → nd i = nd' i) : orN nd c set n ↔ orN nd' c set n := by
  unfold orN
  simp only [ore_congr h]
theorem orN_u {nd : Int → Int} {c set : Int} {n m : Nat} (h : orN nd c set n) (h' : orN nd c set m) : n = m := by
  obtain ⟨a1, a2, a3⟩ := h
  obtain ⟨b1, b2, b3⟩ := h'
  by_cases q : n < m
  · rcases a2 with e | e
    · omega
    · exact absurd e (b3 n q)
  · by_cases q2 : m < n
    · rcases b2 with e | e
      · omega
      · exact absurd e (a3 m q2)
    · omega
def orn (nd : Int → Int) (c set : Int) : Nat := if fnd (fun i => decide (ore nd c set i.toNat = -1)) 10 = -1 then 10 else (fnd (fun i => decide (ore nd c set i.toNat = -1)) 10).toNat
theorem orn_N (nd : Int → Int) (c set : Int) : orN nd c set (orn nd c set) := by
  unfold orn
  rcases fnd_cases (P := fun i => decide (ore nd c set i.toNat = -1)) 10 with ⟨e1, e2⟩ | ⟨e1, e2, e3, e4⟩
  · rw [if_pos e1]
    refine ⟨by omega, Or.inl rfl, fun i hi => ?_⟩
    have := e2 i (by omega) (by omega)
    simpa using this
  · rw [if_neg (by omega)]
    refine ⟨by omega, Or.inr ?_, fun i hi => ?_⟩
    · simpa using e3
    · have := e4 i (by omega) (by omega)
      simpa using this
def nds (s : sS) : Int → Int := fun p => s 5 p 0
def onS (s : sS) (set : Int) : Nat := orn (nds s) (s 0 0 0) set
abbrev psb (s : sS) (set : Int) : Prop := stp (nds s) (s 0 0 0) set (onS s set) = set
def orS (s : sS) (set : Int) (i : Nat) : Int := ore (nds s) (s 0 0 0) set i
/-- the rules of a set -/
def rls (s : sS) (set : Int) : Int → Int := rlS (s 2) (s 3) (s 4) (fun p => s 1 p 0) (fun j => orS s set j.toNat) (onS s set)
theorem apn_congr {cr cs cn cr' cs' cn' : Int → Int} : ∀ (n : Nat) (R : Int → Int), (∀ i : Int, 0 ≤ i → i < n → cr i = cr' i ∧ cs i = cs' i ∧ cn i = cn' i) → apn cr cs cn n R = apn cr' cs' cn' n R
  | 0, R, _ => rfl
  | n + 1, R, h => by
    obtain ⟨a, b, c⟩ := h n (by omega) (by omega)
    rw [apn, apn, apn_congr n R (fun i i0 i1 => h i i0 (by omega)), a, b, c]
theorem rlS_congr {cr cs cn cr' cs' cn' : Int → Int → Int} {sz sz' od od' : Int → Int} : ∀ (n : Nat), (∀ k : Nat, k < n → od k = od' k ∧ sz (od k) = sz' (od k) ∧ ∀ i : Int, 0 ≤ i → i < sz (od k) → cr (od k) i = cr' (od k) i ∧ cs (od k) i = cs' (od k) i ∧ cn (od k) i = cn' (od k) i) → rlS cr cs cn sz od n = rlS cr' cs' cn' sz' od' n
  | 0, _ => rfl
  | n + 1, h => by
    obtain ⟨a, b, c⟩ := h n (by omega)
    rw [rlS, rlS, rlS_congr n (fun k hk => h k (by omega)), ← a, ← b]
    exact apn_congr _ _ fun i i0 i1 => c i i0 (by omega)
theorem RC_nd {h : ac_H} {x : Int} {ad s : sS} (hR : RC h x ad s) : h 601 (h 900 x 0) 0 = s 0 0 0 ∧ ∀ i, 0 ≤ i → i < s 0 0 0 → pk h (h 900 x 0) i = ad 10 i 0 ∧ pnd h (h 900 x 0) i = nds s i := by
  obtain ⟨hi, ⟨f1, f2, f3, f4, f5, f6, f7, f8, f9, f10, f11, f12, f13, -⟩, ⟨g1, g2, g3, g4, g5, g6, g7⟩, -, hp, -⟩ := hR
  rw [f4]
  refine ⟨g7, fun i i0 i1 => ?_⟩
  obtain ⟨p1, p2, p3, p4, p5, p6, p7, p8⟩ := hp i i0 i1
  have e : pk h (ad 1 0 0) i = ad 10 i 0 := by unfold pk; rw [f11, p2]
  exact ⟨e, by unfold pnd; rw [e, p6]; rfl⟩
theorem RC_orN {h : ac_H} {x set : Int} {ad s : sS} {n : Nat} (hR : RC h x ad s) (hn : orN (pnd h (h 900 x 0)) (h 601 (h 900 x 0) 0) set n) : n = onS s set ∧ stp (pnd h (h 900 x 0)) (h 601 (h 900 x 0) 0) set n = stp (nds s) (s 0 0 0) set (onS s set) ∧ ∀ i, ore (pnd h (h 900 x 0)) (h 601 (h 900 x 0) 0) set i = orS s set i := by
  obtain ⟨e, hp⟩ := RC_nd hR
  rw [e] at hn ⊢
  have hc : ∀ i, 0 ≤ i → i < s 0 0 0 → pnd h (h 900 x 0) i = nds s i := fun i a b => (hp i a b).2
  have e2 : n = onS s set := orN_u ((orN_congr hc).mp hn) (orn_N _ _ _)
  exact ⟨e2, by rw [stp_congr hc, e2], fun i => ore_congr hc i⟩
theorem RC_rls {h : ac_H} {x set : Int} {ad s : sS} {n : Nat} (hR : RC h x ad s) (hS : SI s) (hn : orN (pnd h (h 900 x 0)) (h 601 (h 900 x 0) 0) set n) : rlB (orH h (h 900 x 0) set n) (h 900 x 0) n = rls s set := by
  obtain ⟨e1, e2, e3⟩ := RC_orN hR hn
  obtain ⟨q1, q2⟩ := RC_nd hR
  obtain ⟨hi, -, -, -, hp, hc, -⟩ := hR
  unfold rlB rls
  rw [← e1, orH_k (by decide) (by decide), or_10]
  refine rlS_congr n fun k hk => ?_
  have o1 : orA (pnd h (h 900 x 0)) (h 601 (h 900 x 0) 0) set (h 10 (h 602 (h 900 x 0) 0)) n k = orS s set k := by rw [orA_at n k hk, e3]
  rw [o1]
  refine ⟨by simp, ?_⟩
  have o2 : orS s set k ≠ -1 := by rw [← e3]; exact hn.2.2 k hk
  have o3 : 0 ≤ orS s set k ∧ orS s set k < s 0 0 0 := nx_r.resolve_left o2
  generalize orS s set k = p at o3
  obtain ⟨p1, p2⟩ := q2 p o3.1 o3.2
  obtain ⟨c1, c2, c3, c4, c5, c6, c7, c8⟩ := hp p o3.1 o3.2
  have z : psz (orH h (h 900 x 0) set n) (h 900 x 0) p = s 1 p 0 := by
    simp only [psz, pk, orH_k, up_k, ast_k, up_kf, ast_kf, ne_eq, Nat.reduceEqDiff, not_false_eq_true]
    unfold pk at p1; rw [p1, c5]
  refine ⟨z, fun i i0 i1 => ?_⟩
  rw [z] at i1
  obtain ⟨d1, d2, d3, d4, d5, d6⟩ := hc p i o3.1 o3.2 i0 i1
  unfold pk at p1
  simp only [pcR, pcS, pcN, pcr, pcs, pcn, pk, orH_k, up_k, ast_k, up_kf, ast_kf, ne_eq, Nat.reduceEqDiff, not_false_eq_true, p1, c4, d2, d4, d5, d6, and_self]
