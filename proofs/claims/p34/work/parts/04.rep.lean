/-! ===== numbers ===== -/
theorem ac_ti {x : Int} (h : ac_irg x) : (Int32.ofInt x).toInt = x := Int32.toInt_ofInt_of_le h.1 (by have := h.2; omega)
theorem ac_io (y : Int32) : Int32.ofInt y.toInt = y := Int32.ofInt_toInt y
theorem ac_iir (y : Int32) : ac_irg y.toInt := ⟨by have := Int32.le_toInt y; omega, by have := Int32.toInt_lt y; omega⟩
theorem ac_tj {x : Int} (h : ac_jrg x) : (Int64.ofInt x).toInt = x := Int64.toInt_ofInt_of_le h.1 (by have := h.2; omega)
theorem ac_jo (y : Int64) : Int64.ofInt y.toInt = y := Int64.ofInt_toInt y
theorem ac_jir (y : Int64) : ac_jrg y.toInt := ⟨by have := Int64.le_toInt y; omega, by have := Int64.toInt_lt y; omega⟩
theorem ac_lt {x y : Int} (hx : ac_irg x) (hy : ac_irg y) : Int32.ofInt x < Int32.ofInt y ↔ x < y := by rw [Int32.lt_iff_toInt_lt, ac_ti hx, ac_ti hy]
theorem ac_le {x y : Int} (hx : ac_irg x) (hy : ac_irg y) : Int32.ofInt x ≤ Int32.ofInt y ↔ x ≤ y := by rw [Int32.le_iff_toInt_le, ac_ti hx, ac_ti hy]
theorem ac_eq {x y : Int} (hx : ac_irg x) (hy : ac_irg y) : Int32.ofInt x = Int32.ofInt y ↔ x = y := by rw [← Int32.toInt_inj, ac_ti hx, ac_ti hy]
theorem ac_cl {x : Int} (hx : ac_irg x) : (Int32.ofInt x).toNatClampNeg = x.toNat := by show (Int32.ofInt x).toInt.toNat = _; rw [ac_ti hx]
theorem ac_0 : Int32.ofInt 0 = 0 := rfl
theorem ac_in {i n : Int} (hi : ac_irg i) (h0 : 0 ≤ i) (h1 : i < n) : vp_in (Int32.ofInt i) n.toNat := by
  unfold vp_in
  rw [ac_cl hi, ← ac_0, ac_lt hi ⟨by decide, by decide⟩]
  omega
theorem ac_rfr {a : Int} (h : 0 < a) : ac_rf a = .ref (a - 1).toNat := if_neg (by omega)
theorem ac_rf0 : ac_rf 0 = .null := rfl
theorem ac_cat1 (v : ac_V) (h : ∀ x, v ≠ .inr (.inr x)) : (ac_v v).category = 1 := by
  match v with
  | .inl x => rfl
  | .inr (.inl a) => simp only [ac_v, ac_rf]; split <;> rfl
  | .inr (.inr x) => exact absurd rfl (h x)
/-! ===== one map for all memory ===== -/
theorem up_self (h : ac_H) (k : Nat) (a j v : Int) : up h k a j v k a j = v := if_pos ⟨rfl, rfl, rfl⟩
theorem up_ne {h : ac_H} {k k' : Nat} {a a' j j' v : Int} (e : ¬ (k' = k ∧ a' = a ∧ j' = j)) : up h k a j v k' a' j' = h k' a' j' := if_neg e
theorem up_k {h : ac_H} {k k' : Nat} {a a' j j' v : Int} (e : k' ≠ k) : up h k a j v k' a' j' = h k' a' j' := up_ne (fun q => e q.1)
theorem up_a {h : ac_H} {k k' : Nat} {a a' j j' v : Int} (e : a' ≠ a) : up h k a j v k' a' j' = h k' a' j' := up_ne (fun q => e q.2.1)
theorem up_j {h : ac_H} {k k' : Nat} {a a' j j' v : Int} (e : j' ≠ j) : up h k a j v k' a' j' = h k' a' j' := up_ne (fun q => e q.2.2)
theorem ac_cl_len {ci : Nat} {r : vw_C} (h : vwCl[ci]? = some r) : ci < 9 ∧ r.2.2 ≤ 40 := by
  have h1 : ci < vwCl.length := (List.getElem?_eq_some_iff.mp h).1
  have h2 : ci < 9 := h1
  refine ⟨h2, ?_⟩
  have key : ∀ c, c < 9 → (vwCl[c]?.map fun q => decide (q.2.2 ≤ 40)) = some true := by decide
  have h3 := key ci h2
  rw [h] at h3
  simpa using h3
section AR
variable {G : ac_G} {h : ac_H} {H H1 : Heap}
theorem ac_R.bnd (hR : ac_R G h H) {a : Int} {k : Nat} {j : Int} (hk : h k a j ≠ 0) : 0 < a ∧ a ≤ H.size := by
  refine ⟨?_, ?_⟩
  · by_cases q : 0 < a
    · exact q
    · exact absurd (hR.2.1 a (Or.inl (by omega)) k j) hk
  · by_cases q : a ≤ H.size
    · exact q
    · exact absurd (hR.2.1 a (Or.inr (by omega)) k j) hk
theorem ac_apart {a b : Int} (ha : 0 < a) (hb : 0 < b) (hne : a ≠ b) : (a - 1).toNat ≠ (b - 1).toNat := by omega
/-- one cell changes, the map at one place of it: the other cells -/
theorem ac_R.upd (hR : ac_R G h H) {a : Int} {k : Nat} {j v : Int} (ha : 0 < a) (hka : h 0 a 0 ≠ 0) (h18 : h 0 a 0 ≠ 18) (hk2 : 2 ≤ k) (hz : H1.size = H.size) (ho : ∀ q : Nat, q ≠ (a - 1).toNat → H1[q]? = H[q]?)
    (hO : ∀ (ci : Nat) (r : vw_C), vwCl[ci]? = some r → h 0 a 0 = 20 + ci → t_OB (a - 1).toNat (G.2.1.1 ci) r.2.2 (G.2.1.2 ci) H1 (fun k' => ac_fv ci k' (up h k a j v (100 * (ci + 1) + k') a 0)) ∧ ∀ k', k' < r.2.2 → ac_fo ci k' (up h k a j v (100 * (ci + 1) + k') a 0))
    (hA : ∀ (t : Nat), 10 ≤ t → t ≤ 17 → h 0 a 0 = t → H1[(a - 1).toNat]? = some (arrV (G.2.2.1 t) (h 1 a 0).toNat (fun j' => ac_av t (up h k a j v t a j'))) ∧ ∀ j' : Int, 0 ≤ j' → j' < h 1 a 0 → ac_ao t (up h k a j v t a j')) : ac_R G (up h k a j v) H1 := by
  obtain ⟨⟨b1, b2⟩, b3, b4, b5, b6, b7, b8⟩ := id hR
  have hb := hR.bnd hka
  have hW := b4 a hka h18
  have k0 : ∀ (a' j' : Int), up h k a j v 0 a' j' = h 0 a' j' := fun a' j' => up_k (by omega)
  have k1 : ∀ (a' j' : Int), up h k a j v 1 a' j' = h 1 a' j' := fun a' j' => up_k (by omega)
  refine ⟨⟨by omega, fun q hq => (ho q (by omega)).trans (b2 q hq)⟩, fun a' ha' k' j' => ?_, fun a' x1 x2 => ?_, fun ci r a' hc ht => ?_, fun t a' t1 t2 ht => ?_, fun a' ht => ?_, fun q hq => ?_⟩
  · rw [up_a (by rcases ha' with e | e <;> omega)]
    exact b3 a' (ha'.imp id (fun e => by omega)) k' j'
  · rw [k0] at x1 x2
    exact b4 a' x1 x2
  · rw [k0] at ht
    by_cases e : a' = a
    · subst e; exact hO ci r hc ht
    · have hp := hR.bnd (a := a') (k := 0) (j := 0) (by omega)
      obtain ⟨c1, c2⟩ := b5 ci r a' hc ht
      refine ⟨(c1.kept (ho _ (ac_apart hp.1 ha e))).to (fun k' _ => by rw [up_a e]), fun k' hk' => by rw [up_a e]; exact c2 k' hk'⟩
  · rw [k0] at ht
    rw [k1]
    by_cases e : a' = a
    · subst e
      obtain ⟨c1, c2, -, -⟩ := b6 t a' t1 t2 ht
      exact ⟨c1, c2, hA t t1 t2 ht⟩
    · have hp := hR.bnd (a := a') (k := 0) (j := 0) (by omega)
      obtain ⟨c1, c2, c3, c4⟩ := b6 t a' t1 t2 ht
      refine ⟨c1, c2, ?_, fun j' q1 q2 => by rw [up_a e]; exact c4 j' q1 q2⟩
      rw [ho _ (ac_apart hp.1 ha e), c3]
      congr 2
      funext j'
      rw [up_a e]
  · rw [k0] at ht
    exact b7 a' ht
  · obtain ⟨c1, c1', c2, c3, c4⟩ := b8 q hq
    have e : ((q.1 : Int) + 1) ≠ a := by
      intro e
      rw [e] at c2
      exact h18 c2
    exact ⟨c1, c1', by rw [k0]; exact c2, by rw [k1]; exact c3, fun j' hj' => by rw [up_a e]; exact c4 j' hj'⟩
/-- a field is written -/
theorem ac_R.put (hR : ac_R G h H) {ci k : Nat} {r : vw_C} {a x : Int} (hc : vwCl[ci]? = some r) (hk : k < r.2.2) (ht : h 0 a 0 = 20 + ci) (hx : ac_fo ci k x)
    (hap : ∀ x y, x < r.2.2 → y < r.2.2 → x ≠ y → (G.2.1.2 ci) x ≠ (G.2.1.2 ci) y) {cell : Cell} (hcell : H[(a - 1).toNat]? = some cell)
    (e1 : H1[(a - 1).toNat]? = some (cell.setSlot (G.2.1.2 ci k) (ac_fv ci k x))) (hz : H1.size = H.size) (ho : ∀ q : Nat, q ≠ (a - 1).toNat → H1[q]? = H[q]?) : ac_R G (up h (100 * (ci + 1) + k) a 0 x) H1 := by
  obtain ⟨hci, hN⟩ := ac_cl_len hc
  have hp := hR.bnd (a := a) (k := 0) (j := 0) (by omega)
  refine hR.upd hp.1 (by omega) (by omega) (by omega) hz ho (fun ci' r' hc' ht' => ?_) (fun t t1 t2 ht' => by omega)
  have e : ci' = ci := by omega
  subst e
  cases Option.some.inj (hc.symm.trans hc')
  obtain ⟨⟨cell', q1, q2, q3, q4⟩, hf⟩ := hR.2.2.2.1 ci' r a hc ht
  cases Option.some.inj (q1.symm.trans hcell)
  refine ⟨⟨_, e1, q2, q3, fun k' hk' => ?_⟩, fun k' hk' => ?_⟩
  · rw [t_set q4 hap hk (ac_fv ci' k x) k' hk']
    by_cases ek : k' = k
    · subst ek; simp only [up_self]; simp [updV]
    · dsimp only; rw [up_k (by omega)]; simp [updV, ek]
  · by_cases ek : k' = k
    · subst ek; rw [up_self]; exact hx
    · rw [up_k (by omega)]; exact hf k' hk'
/-- a place of an array is written -/
theorem ac_R.ast (hR : ac_R G h H) {t : Nat} {a i x : Int} (t1 : 10 ≤ t) (t2 : t ≤ 17) (ht : h 0 a 0 = t) (h0 : 0 ≤ i) (hi : i < h 1 a 0) (hx : ac_ao t x) {cell : Cell} (hcell : H[(a - 1).toNat]? = some cell)
    (e1 : H1[(a - 1).toNat]? = some (cell.setSlot i.toNat (ac_av t x))) (hz : H1.size = H.size) (ho : ∀ q : Nat, q ≠ (a - 1).toNat → H1[q]? = H[q]?) : ac_R G (up h t a i x) H1 := by
  have hp := hR.bnd (a := a) (k := 0) (j := 0) (by omega)
  refine hR.upd hp.1 (by omega) (by omega) (by omega) hz ho (fun ci' r' hc' ht' => by omega) (fun t' _ _ ht' => ?_)
  have e : t' = t := by omega
  subst e
  obtain ⟨c1, c2, c3, c4⟩ := hR.2.2.2.2.1 t' a t1 t2 ht
  cases Option.some.inj (c3.symm.trans hcell)
  refine ⟨?_, fun j' q1 q2 => ?_⟩
  · rw [e1, arrV_store]
    congr 2
    funext j'
    by_cases ej : j' = i.toNat
    · subst ej
      rw [show ((i.toNat : Nat) : Int) = i by omega, up_self]
      simp [updV]
    · rw [up_j (by omega)]
      simp [updV, ej]
  · by_cases ej : j' = i
    · subst ej; rw [up_self]; exact hx
    · rw [up_j ej]; exact c4 j' q1 q2
/-- a whole array's contents are written anew -/
theorem ac_R.fill (hR : ac_R G h H) {t : Nat} {a : Int} {g : ac_H} (t1 : 10 ≤ t) (t2 : t ≤ 17) (ht : h 0 a 0 = t)
    (hg : ∀ (k : Nat) (a' j : Int), ¬ (k = t ∧ a' = a ∧ 0 ≤ j ∧ j < h 1 a 0) → g k a' j = h k a' j) (hx : ∀ j : Int, 0 ≤ j → j < h 1 a 0 → ac_ao t (g t a j))
    (e1 : H1[(a - 1).toNat]? = some (arrV (G.2.2.1 t) (h 1 a 0).toNat (fun j => ac_av t (g t a j)))) (hz : H1.size = H.size) (ho : ∀ q : Nat, q ≠ (a - 1).toNat → H1[q]? = H[q]?) : ac_R G g H1 := by
  obtain ⟨⟨b1, b2⟩, b3, b4, b5, b6, b7, b8⟩ := id hR
  have hb := hR.bnd (a := a) (k := 0) (j := 0) (by omega)
  have hW := b4 a (by omega) (by omega)
  have k0 : ∀ (a' j' : Int), g 0 a' j' = h 0 a' j' := fun a' j' => hg 0 a' j' (by omega)
  have k1 : ∀ (a' j' : Int), g 1 a' j' = h 1 a' j' := fun a' j' => hg 1 a' j' (by omega)
  have ka : ∀ (k : Nat) (a' j : Int), a' ≠ a → g k a' j = h k a' j := fun k a' j e => hg k a' j (fun q => e q.2.1)
  refine ⟨⟨by omega, fun q hq => (ho q (by omega)).trans (b2 q hq)⟩, fun a' ha' k' j' => ?_, fun a' x1 x2 => ?_, fun ci r a' hc ht' => ?_, fun t' a' t1' t2' ht' => ?_, fun a' ht' => ?_, fun q hq => ?_⟩
  · rw [ka _ _ _ (by rcases ha' with e | e <;> omega)]
    exact b3 a' (ha'.imp id (fun e => by omega)) k' j'
  · rw [k0] at x1 x2
    exact b4 a' x1 x2
  · rw [k0] at ht'
    have e : a' ≠ a := by intro e; subst e; omega
    have hp := hR.bnd (a := a') (k := 0) (j := 0) (by omega)
    obtain ⟨c1, c2⟩ := b5 ci r a' hc ht'
    refine ⟨(c1.kept (ho _ (ac_apart hp.1 hb.1 e))).to (fun k' _ => by rw [ka _ _ _ e]), fun k' hk' => by rw [ka _ _ _ e]; exact c2 k' hk'⟩
  · rw [k0] at ht'
    rw [k1]
    by_cases e : a' = a
    · subst e
      have et : t' = t := by omega
      subst et
      obtain ⟨c1, c2, -, -⟩ := b6 t' a' t1 t2 ht
      exact ⟨c1, c2, e1, hx⟩
    · have hp := hR.bnd (a := a') (k := 0) (j := 0) (by omega)
      obtain ⟨c1, c2, c3, c4⟩ := b6 t' a' t1' t2' ht'
      refine ⟨c1, c2, ?_, fun j' q1 q2 => by rw [ka _ _ _ e]; exact c4 j' q1 q2⟩
      rw [ho _ (ac_apart hp.1 hb.1 e), c3]
      congr 2
      funext j'
      rw [ka _ _ _ e]
  · rw [k0] at ht'
    exact b7 a' ht'
  · obtain ⟨c1, c1', c2, c3, c4⟩ := b8 q hq
    have e : ((q.1 : Int) + 1) ≠ a := by intro e; rw [e] at c2; omega
    exact ⟨c1, c1', by rw [k0]; exact c2, by rw [k1]; exact c3, fun j' hj' => by rw [ka _ _ _ e]; exact c4 j' hj'⟩
/-- a cell that was not there -/
def ac_new (h : ac_H) (a : Int) : Prop := 0 < a ∧ ∀ (k : Nat) (j : Int), h k a j = 0
theorem ac_R.fresh (hR : ac_R G h H) : ac_new h ((H.size : Int) + 1) := ⟨by omega, fun k j => hR.2.1 _ (Or.inr (by omega)) k j⟩
/-- cells are added that nobody speaks of -/
theorem ac_R.grow (hR : ac_R G h H) (hz : H.size ≤ H1.size) (ho : ∀ q : Nat, q < H.size → H1[q]? = H[q]?) : ac_R G h H1 := by
  obtain ⟨⟨b1, b2⟩, b3, b4, b5, b6, b7, b8⟩ := id hR
  refine ⟨⟨by omega, fun q hq => (ho q (by omega)).trans (b2 q hq)⟩, fun a' ha' k' j' => b3 a' (by omega) k' j', b4, fun ci r a' hc ht => ?_, fun t a' t1 t2 ht => ?_, b7, b8⟩
  · have hp := hR.bnd (a := a') (k := 0) (j := 0) (by omega)
    obtain ⟨c1, c2⟩ := b5 ci r a' hc ht
    exact ⟨c1.kept (ho _ (by omega)), c2⟩
  · have hp := hR.bnd (a := a') (k := 0) (j := 0) (by omega)
    obtain ⟨c1, c2, c3, c4⟩ := b6 t a' t1 t2 ht
    exact ⟨c1, c2, by rw [ho _ (by omega)]; exact c3, c4⟩
theorem ac_R.newO (hR : ac_R G h H) {ci : Nat} {r : vw_C} (hc : vwCl[ci]? = some r) (hz : H1.size = H.size + 1) (ho : ∀ q : Nat, q < H.size → H1[q]? = H[q]?)
    (hO : t_OB H.size (G.2.1.1 ci) r.2.2 (G.2.1.2 ci) H1 (fun k => ac_fv ci k 0)) : ac_R G (up h 0 ((H.size : Int) + 1) 0 (20 + ci)) H1 := by
  have hN := hR.fresh
  obtain ⟨⟨b1, b2⟩, b3, b4, b5, b6, b7, b8⟩ := hR.grow (H1 := H1) (by omega) ho
  obtain ⟨hci, -⟩ := ac_cl_len hc
  have hk : ∀ (k : Nat) (a j : Int), k ≠ 0 → up h 0 ((H.size : Int) + 1) 0 (20 + ci) k a j = h k a j := fun k a j e => up_k e
  have hf : ∀ k, ac_fo ci k 0 := fun k => by unfold ac_fo; split; exact Int.le_refl 0; exact ⟨by omega, by omega⟩
  refine ⟨⟨b1, b2⟩, fun a' ha' k' j' => ?_, fun a' x1 x2 => ?_, fun ci' r' a' hc' ht => ?_, fun t a' t1 t2 ht => ?_, fun a' ht => ?_, fun q hq => ?_⟩
  · rw [up_a (by omega)]; exact b3 a' ha' k' j'
  · by_cases e : a' = (H.size : Int) + 1
    · subst e
      have := hR.1.1
      omega
    · rw [up_a e] at x1 x2; exact b4 a' x1 x2
  · by_cases e : a' = (H.size : Int) + 1
    · subst e
      rw [up_self] at ht
      have e : ci' = ci := by omega
      subst e
      cases Option.some.inj (hc.symm.trans hc')
      rw [show ((H.size : Int) + 1 - 1).toNat = H.size by omega]
      refine ⟨hO.to (fun k _ => by rw [hk _ _ _ (by omega), hN.2]), fun k _ => by rw [hk _ _ _ (by omega), hN.2]; exact hf k⟩
    · rw [up_a e] at ht
      obtain ⟨c1, c2⟩ := b5 ci' r' a' hc' ht
      refine ⟨c1.to (fun k' _ => by rw [up_a e]), fun k' hk' => by rw [up_a e]; exact c2 k' hk'⟩
  · by_cases e : a' = (H.size : Int) + 1
    · subst e
      rw [up_self] at ht
      omega
    · rw [up_a e] at ht
      rw [hk 1 _ _ (by omega)]
      obtain ⟨c1, c2, c3, c4⟩ := b6 t a' t1 t2 ht
      refine ⟨c1, c2, ?_, fun j' q1 q2 => by rw [hk _ _ _ (by omega)]; exact c4 j' q1 q2⟩
      rw [c3]
      congr 2
      funext j'
      rw [hk _ _ _ (by omega)]
  · by_cases e : a' = (H.size : Int) + 1
    · subst e
      rw [up_self] at ht
      omega
    · rw [up_a e] at ht
      exact b7 a' ht
  · obtain ⟨c1, c1', c2, c3, c4⟩ := b8 q hq
    have e : ((q.1 : Int) + 1) ≠ (H.size : Int) + 1 := by have := hR.1.1; omega
    exact ⟨c1, c1', by rw [up_a e]; exact c2, by rw [hk _ _ _ (by omega)]; exact c3, fun j' hj' => by rw [hk _ _ _ (by omega)]; exact c4 j' hj'⟩
theorem ac_R.newA (hR : ac_R G h H) {t : Nat} {n : Int} {g : ac_H} (t1 : 10 ≤ t) (t2 : t ≤ 17) (n0 : 0 ≤ n) (n1 : n < 2147483648) (hz : H1.size = H.size + 1) (ho : ∀ q : Nat, q < H.size → H1[q]? = H[q]?)
    (g0 : g 0 ((H.size : Int) + 1) 0 = t) (g1 : g 1 ((H.size : Int) + 1) 0 = n) (gk : ∀ (k : Nat) (a j : Int), a ≠ (H.size : Int) + 1 → g k a j = h k a j) (gx : ∀ j : Int, 0 ≤ j → j < n → ac_ao t (g t ((H.size : Int) + 1) j))
    (hA : H1[H.size]? = some (arrV (G.2.2.1 t) n.toNat (fun j => ac_av t (g t ((H.size : Int) + 1) j)))) : ac_R G g H1 := by
  obtain ⟨⟨b1, b2⟩, b3, b4, b5, b6, b7, b8⟩ := hR.grow (H1 := H1) (by omega) ho
  refine ⟨⟨b1, b2⟩, fun a' ha' k' j' => ?_, fun a' x1 x2 => ?_, fun ci' r' a' hc' ht => ?_, fun t' a' t1' t2' ht => ?_, fun a' ht => ?_, fun q hq => ?_⟩
  · rw [gk _ _ _ (by omega)]; exact b3 a' ha' k' j'
  · by_cases e : a' = (H.size : Int) + 1
    · subst e
      have := hR.1.1
      omega
    · rw [gk _ _ _ e] at x1 x2; exact b4 a' x1 x2
  · by_cases e : a' = (H.size : Int) + 1
    · subst e
      rw [g0] at ht
      omega
    · rw [gk _ _ _ e] at ht
      obtain ⟨c1, c2⟩ := b5 ci' r' a' hc' ht
      refine ⟨c1.to (fun k' _ => by rw [gk _ _ _ e]), fun k' hk' => by rw [gk _ _ _ e]; exact c2 k' hk'⟩
  · by_cases e : a' = (H.size : Int) + 1
    · subst e
      rw [g0] at ht
      have et : t' = t := by omega
      subst et
      rw [g1, show ((H.size : Int) + 1 - 1).toNat = H.size by omega]
      exact ⟨n0, n1, hA, gx⟩
    · rw [gk _ _ _ e] at ht
      rw [gk 1 _ _ e]
      obtain ⟨c1, c2, c3, c4⟩ := b6 t' a' t1' t2' ht
      refine ⟨c1, c2, ?_, fun j' q1 q2 => by rw [gk _ _ _ e]; exact c4 j' q1 q2⟩
      rw [c3]
      congr 2
      funext j'
      rw [gk _ _ _ e]
  · by_cases e : a' = (H.size : Int) + 1
    · subst e
      rw [g0] at ht
      omega
    · rw [gk _ _ _ e] at ht
      exact b7 a' ht
  · obtain ⟨c1, c1', c2, c3, c4⟩ := b8 q hq
    have e : ((q.1 : Int) + 1) ≠ (H.size : Int) + 1 := by have := hR.1.1; omega
    exact ⟨c1, c1', by rw [gk _ _ _ e]; exact c2, by rw [gk _ _ _ e]; exact c3, fun j' hj' => by rw [gk _ _ _ e]; exact c4 j' hj'⟩
end AR
