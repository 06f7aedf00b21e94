/-! ===== bits ===== -/
def lb (b i : Int) : Bool := (Int32.ofInt b).toBitVec.getLsbD i.toNat
theorem sh_31 {i : Int} (h0 : 0 ≤ i) (h1 : i < 32) : ((Int32.ofInt i &&& 31).toBitVec.smod 32).toNat = i.toNat := by
  have : i = 0 ∨ i = 1 ∨ i = 2 ∨ i = 3 ∨ i = 4 ∨ i = 5 ∨ i = 6 ∨ i = 7 ∨ i = 8 ∨ i = 9 ∨ i = 10 ∨ i = 11 ∨ i = 12 ∨ i = 13 ∨ i = 14 ∨ i = 15 ∨ i = 16 ∨ i = 17 ∨ i = 18 ∨ i = 19 ∨ i = 20 ∨ i = 21 ∨ i = 22 ∨ i = 23 ∨ i = 24 ∨ i = 25 ∨ i = 26 ∨ i = 27 ∨ i = 28 ∨ i = 29 ∨ i = 30 ∨ i = 31 := by omega
  rcases this with rfl | rfl | rfl | rfl | rfl | rfl | rfl | rfl | rfl | rfl | rfl | rfl | rfl | rfl | rfl | rfl | rfl | rfl | rfl | rfl | rfl | rfl | rfl | rfl | rfl | rfl | rfl | rfl | rfl | rfl | rfl | rfl <;> rfl
theorem bt_lb {b i : Int} (h0 : 0 ≤ i) (h1 : i < 32) : bt b i = if lb b i = true then 1 else 0 := by
  unfold bt iand ishr lb
  rw [Int32.ofInt_toInt]
  have h2 := sh_31 h0 h1
  generalize Int32.ofInt b = B at *
  generalize Int32.ofInt i &&& 31 = s at *
  have e : ((B >>> s) &&& Int32.ofInt 1).toBitVec = (B.toBitVec.sshiftRight (s.toBitVec.smod 32).toNat) &&& 1#32 := by
    rw [Int32.toBitVec_and, Int32.toBitVec_shiftRight]
    rfl
  have e2 : ((B >>> s) &&& Int32.ofInt 1).toBitVec = if B.toBitVec.getLsbD i.toNat = true then 1#32 else 0#32 := by
    rw [e, h2]
    apply BitVec.eq_of_getLsbD_eq
    intro j hj
    rw [BitVec.getLsbD_and, BitVec.getLsbD_one, BitVec.getLsbD_sshiftRight]
    by_cases q : j = 0
    · subst q
      have : i.toNat < 32 := by omega
      cases hB : B.toBitVec.getLsbD i.toNat <;> simp [this, hB]
    · cases hB : B.toBitVec.getLsbD i.toNat <;> simp [q, hB]
  show (((B >>> s) &&& Int32.ofInt 1).toBitVec).toInt = _
  rw [e2]
  split <;> rfl
theorem bt_01 {b i : Int} (h0 : 0 ≤ i) (h1 : i < 32) : bt b i = 0 ∨ bt b i = 1 := by
  rw [bt_lb h0 h1]; split <;> simp
theorem lb_or {a b i : Int} : lb (ior a b) i = (lb a i || lb b i) := by
  unfold lb ior
  rw [Int32.ofInt_toInt, Int32.toBitVec_or, BitVec.getLsbD_or]
theorem lb_and {a b i : Int} : lb (iand a b) i = (lb a i && lb b i) := by
  unfold lb iand
  rw [Int32.ofInt_toInt, Int32.toBitVec_and, BitVec.getLsbD_and]
theorem lb_not {a i : Int} (h0 : 0 ≤ i) (h1 : i < 32) : lb (ixor a (-1)) i = !lb a i := by
  unfold lb ixor
  rw [Int32.ofInt_toInt, Int32.toBitVec_xor, BitVec.getLsbD_xor]
  have : (Int32.ofInt (-1)).toBitVec = BitVec.allOnes 32 := by decide
  rw [this, BitVec.getLsbD_allOnes]
  have h2 : i.toNat < 32 := by omega
  simp [h2]
theorem lb_shl {i j : Int} (h0 : 0 ≤ i) (h1 : i < 32) (j0 : 0 ≤ j) (j1 : j < 32) : lb (ishl 1 i) j = decide (j = i) := by
  unfold lb ishl
  rw [Int32.ofInt_toInt, Int32.toBitVec_shiftLeft]
  have h2 := sh_31 h0 h1
  have e : (Int32.ofInt 1).toBitVec = 1#32 := by decide
  rw [e, BitVec.shiftLeft_eq', h2, BitVec.getLsbD_shiftLeft, BitVec.getLsbD_one]
  have j2 : j.toNat < 32 := by omega
  by_cases q : j = i
  · subst q; simp [j2]
  · by_cases q2 : j.toNat < i.toNat
    · simp [q, q2]
    · have : ¬ j.toNat - i.toNat = 0 := by omega
      simp [q, j2, q2, this]
theorem lb_0 {j : Int} : lb 0 j = false := by
  unfold lb
  have : (Int32.ofInt 0).toBitVec = 0#32 := by decide
  rw [this]
  simp
theorem bt_set {b i j : Int} (h0 : 0 ≤ i) (h1 : i < 32) (j0 : 0 ≤ j) (j1 : j < 32) : bt (ior b (ishl 1 i)) j = if j = i then 1 else bt b j := by
  rw [bt_lb j0 j1, bt_lb j0 j1, lb_or, lb_shl h0 h1 j0 j1]
  by_cases e : j = i <;> simp [e]
theorem bt_clr {b i j : Int} (h0 : 0 ≤ i) (h1 : i < 32) (j0 : 0 ≤ j) (j1 : j < 32) : bt (iand b (ixor (ishl 1 i) (-1))) j = if j = i then 0 else bt b j := by
  rw [bt_lb j0 j1, bt_lb j0 j1, lb_and, lb_not j0 j1, lb_shl h0 h1 j0 j1]
  by_cases e : j = i <;> simp [e]
theorem bt_shl {i j : Int} (h0 : 0 ≤ i) (h1 : i < 32) (j0 : 0 ≤ j) (j1 : j < 32) : bt (ishl 1 i) j = if j = i then 1 else 0 := by
  rw [bt_lb j0 j1, lb_shl h0 h1 j0 j1]
  by_cases e : j = i <;> simp [e]
theorem bt_0 {j : Int} (j0 : 0 ≤ j) (j1 : j < 32) : bt 0 j = 0 := by
  rw [bt_lb j0 j1, lb_0]; rfl
theorem us_31 {i : Int} (h0 : 0 ≤ i) (h1 : i < 31) : ((Int32.ofInt i).toUInt32 &&& Int32.toUInt32 31).toNat % 32 = i.toNat := by
  have : i = 0 ∨ i = 1 ∨ i = 2 ∨ i = 3 ∨ i = 4 ∨ i = 5 ∨ i = 6 ∨ i = 7 ∨ i = 8 ∨ i = 9 ∨ i = 10 ∨ i = 11 ∨ i = 12 ∨ i = 13 ∨ i = 14 ∨ i = 15 ∨ i = 16 ∨ i = 17 ∨ i = 18 ∨ i = 19 ∨ i = 20 ∨ i = 21 ∨ i = 22 ∨ i = 23 ∨ i = 24 ∨ i = 25 ∨ i = 26 ∨ i = 27 ∨ i = 28 ∨ i = 29 ∨ i = 30 := by omega
  rcases this with rfl | rfl | rfl | rfl | rfl | rfl | rfl | rfl | rfl | rfl | rfl | rfl | rfl | rfl | rfl | rfl | rfl | rfl | rfl | rfl | rfl | rfl | rfl | rfl | rfl | rfl | rfl | rfl | rfl | rfl | rfl <;> rfl
theorem i32_0 (x : UInt32) : x.toInt32.toInt = 0 ↔ x.toNat = 0 := by
  constructor
  · intro h
    have h1 : x.toBitVec.toInt = (0#32).toInt := h
    have h2 := BitVec.eq_of_toInt_eq h1
    have : x.toNat = (0#32).toNat := by rw [← h2]; rfl
    simpa using this
  · intro h
    have : x.toBitVec = 0#32 := BitVec.eq_of_toNat_eq h
    show x.toBitVec.toInt = 0
    rw [this]; rfl
theorem u32_of {a : Int} (ha : -2147483648 ≤ a ∧ a < 2147483648) : (Int32.ofInt a).toUInt32.toNat = (a % 4294967296).toNat := by
  show (BitVec.ofInt 32 a).toNat = _
  rw [BitVec.toNat_ofInt]
  rfl
theorem iushr_0 {a n : Int} (ha : -2147483648 ≤ a ∧ a < 2147483648) (h0 : 0 ≤ n) (h1 : n < 31) : iushr a n = 0 ↔ (0 ≤ a ∧ a < ishl 1 n) := by
  unfold iushr
  rw [i32_0, UInt32.toNat_shiftRight, us_31 h0 h1, u32_of ha, Nat.shiftRight_eq_div_pow]
  have p : ishl 1 n = ((2 ^ n.toNat : Nat) : Int) ∧ 0 < 2 ^ n.toNat ∧ 2 ^ n.toNat ≤ 1073741824 := by
    have : n = 0 ∨ n = 1 ∨ n = 2 ∨ n = 3 ∨ n = 4 ∨ n = 5 ∨ n = 6 ∨ n = 7 ∨ n = 8 ∨ n = 9 ∨ n = 10 ∨ n = 11 ∨ n = 12 ∨ n = 13 ∨ n = 14 ∨ n = 15 ∨ n = 16 ∨ n = 17 ∨ n = 18 ∨ n = 19 ∨ n = 20 ∨ n = 21 ∨ n = 22 ∨ n = 23 ∨ n = 24 ∨ n = 25 ∨ n = 26 ∨ n = 27 ∨ n = 28 ∨ n = 29 ∨ n = 30 := by omega
    rcases this with rfl | rfl | rfl | rfl | rfl | rfl | rfl | rfl | rfl | rfl | rfl | rfl | rfl | rfl | rfl | rfl | rfl | rfl | rfl | rfl | rfl | rfl | rfl | rfl | rfl | rfl | rfl | rfl | rfl | rfl | rfl <;> decide
  rw [p.1]
  generalize 2 ^ n.toNat = k at p
  rw [Nat.div_eq_zero_iff]
  omega
