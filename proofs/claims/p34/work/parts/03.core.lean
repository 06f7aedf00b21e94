/-! ===== the abstract machine: ints as Int, references as Int (0 is null, a + 1 the cell a), one map for all memory ===== -/
abbrev ac_V : Type := Int ⊕ (Int ⊕ Int)
abbrev ac_H : Type := Nat → Int → Int → Int
abbrev ac_L : Type := List (Option ac_V)
abbrev ac_S : Type := ac_L → List ac_V → ac_H → Nat → Nat → Prop
abbrev ac_G : Type := Heap × va_G × (Nat → ClassId) × List (Nat × Nat × (Nat → Int32))
def ac_irg (x : Int) : Prop := -2147483648 ≤ x ∧ x < 2147483648
def ac_jrg (x : Int) : Prop := -9223372036854775808 ≤ x ∧ x < 9223372036854775808
def ac_rf (a : Int) : Value := if a ≤ 0 then .null else .ref (a - 1).toNat
def ac_v : ac_V → Value
  | .inl x => .int (Int32.ofInt x)
  | .inr (.inl a) => ac_rf a
  | .inr (.inr x) => .long (Int64.ofInt x)
def ac_ok : ac_V → Prop
  | .inl x => ac_irg x
  | .inr (.inl a) => 0 ≤ a
  | .inr (.inr x) => ac_jrg x
def up (h : ac_H) (k : Nat) (a j v : Int) : ac_H := fun k' a' j' => if k' = k ∧ a' = a ∧ j' = j then v else h k' a' j'
def ac_A (G : ac_G) : Nat → Prop := fun q => G.1.size ≤ q
def ac_ty : Nat → Nat → FieldType
  | 0 => tyX0 | 1 => tyX1 | 2 => tyX2 | 3 => tyX3 | 4 => tyX4 | 5 => tyX5 | 6 => tyX6 | 7 => tyX7 | 8 => tyX8 | 9 => tyX9
  | _ => fun _ => .int
def ac_rk : FieldType → Bool
  | .int => false
  | .boolean => false
  | _ => true
def ac_fv (ci k : Nat) (x : Int) : Value := if ac_rk (ac_ty ci k) = true then ac_rf x else .int (Int32.ofInt x)
def ac_fo (ci k : Nat) (x : Int) : Prop := if ac_rk (ac_ty ci k) = true then 0 ≤ x else ac_irg x
def ac_at : Nat → FieldType
  | 10 => .int
  | 11 => .int
  | 12 => .int
  | 13 => .object "RuleCrypts$Change"
  | 14 => .object "RuleCrypts$Dungeon"
  | 15 => .object "RuleCrypts$Floor"
  | 16 => .object "RuleCrypts$Pack"
  | 17 => .object "RuleCrypts$Run"
  | _ => .int
def ac_av (t : Nat) (x : Int) : Value := if t ≤ 12 then .int (Int32.ofInt x) else if t = 12 then .long (Int64.ofInt x) else ac_rf x
def ac_ao (t : Nat) (x : Int) : Prop := if t ≤ 12 then ac_irg x else if t = 12 then ac_jrg x else 0 ≤ x
def ac_RO (G : ac_G) (h : ac_H) (H : Heap) : Prop := ∀ (ci : Nat) (r : vw_C) (a : Int), vwCl[ci]? = some r → h 0 a 0 = 20 + ci →
  t_OB (a - 1).toNat (G.2.1.1 ci) r.2.2 (G.2.1.2 ci) H (fun k => ac_fv ci k (h (100 * (ci + 1) + k) a 0)) ∧ ∀ k, k < r.2.2 → ac_fo ci k (h (100 * (ci + 1) + k) a 0)
def ac_RA (G : ac_G) (h : ac_H) (H : Heap) : Prop := ∀ (t : Nat) (a : Int), 10 ≤ t → t ≤ 17 → h 0 a 0 = t →
  0 ≤ h 1 a 0 ∧ h 1 a 0 < 2147483648 ∧ H[(a - 1).toNat]? = some (arrV (G.2.2.1 t) (h 1 a 0).toNat (fun j => ac_av t (h t a j))) ∧ ∀ j : Int, 0 ≤ j → j < h 1 a 0 → ac_ao t (h t a j)
def ac_RC (G : ac_G) (h : ac_H) : Prop := (∀ a : Int, h 0 a 0 = 18 → ∃ q ∈ G.2.2.2, a = (q.1 : Int) + 1) ∧
  ∀ q ∈ G.2.2.2, q.1 < G.1.size ∧ q.2.1 < 2147483648 ∧ h 0 ((q.1 : Int) + 1) 0 = 18 ∧ h 1 ((q.1 : Int) + 1) 0 = q.2.1 ∧ ∀ j : Nat, j < q.2.1 → h 10 ((q.1 : Int) + 1) j = (q.2.2 j).toInt
def ac_RZ (h : ac_H) (n : Nat) : Prop := ∀ a : Int, (a ≤ 0 ∨ (n : Int) < a) → ∀ (k : Nat) (j : Int), h k a j = 0
def ac_RW (G : ac_G) (h : ac_H) : Prop := ∀ a : Int, h 0 a 0 ≠ 0 → h 0 a 0 ≠ 18 → G.1.size ≤ (a - 1).toNat
def ac_R (G : ac_G) (h : ac_H) (H : Heap) : Prop :=
  (G.1.size ≤ H.size ∧ ∀ q : Nat, q < G.1.size → H[q]? = G.1[q]?) ∧ ac_RZ h H.size ∧ ac_RW G h ∧ ac_RO G h H ∧ ac_RA G h H ∧ ac_RC G h
/-- what the tables say, the constant arrays of the start, the launch -/
def ac_tys (G : ac_G) : List (ClassId × FieldType) := [(G.2.2.1 10, .int), (G.2.2.1 11, .int), (G.2.2.1 12, .int), (G.2.2.1 13, ac_at 13), (G.2.2.1 14, ac_at 14), (G.2.2.1 15, ac_at 15), (G.2.2.1 16, ac_at 16), (G.2.2.1 17, ac_at 17)]
def ac_nest (w : Cond) : Bool := match w with
  | .fieldLinkNest .. => true
  | .methodLinkNest .. => true
  | .castable .. => true
  | .declares .. => true
  | _ => false
def ac_tb0 : Nat → Int32 := fun k => match k with | 0 => 3 | 1 => 4 | 2 => 3 | 3 => 3 | 4 => 10 | _ => 1
def ac_tb1 : Nat → Int32 := fun k => match k with | 0 => 0 | 1 => 0 | 2 => 1 | 3 => 0 | 4 => 1 | _ => 0
def ac_tb2 : Nat → Int32 := fun k => match k with | 0 => 20 | 1 => 20 | 2 => 9 | 3 => 20 | 4 => 50 | _ => 9
def ac_ex : List String := ["java/lang/IllegalStateException", "java/lang/IllegalArgumentException", "java/lang/IndexOutOfBoundsException"]
def ac_K (G : ac_G) (l : Launch) (U : State) : Prop :=
  (l.stackTraces = false ∧ ∀ C ∈ ac_ex, ∀ D ∈ ac_ex, C ≠ D → va_Nc C D U) ∧ va_K G.2.1 vwCl (ac_tys G) U ∧ (∀ w ∈ tables_1.filter ac_nest, va_Nw w U) ∧
  (∀ (o : String) (k : Nat) (tx : String), Cond.stringRef o k tx ∈ tables_1 → ∃ a : Nat, vk_R o k tx a U) ∧
  (∀ C : String, Cond.arrayOver (.object C) ∈ tables_1 → va_AO C U) ∧
  (∀ q ∈ G.2.2.2, va_X q.1 q.2.1 q.2.2 U G.1) ∧
  (∃ (t0 t1 t2 b L : Nat) (xs : Nat → Int32), G.2.2.2 = [(t0, 6, ac_tb0), (t1, 6, ac_tb1), (t2, 6, ac_tb2), (b, L, xs)] ∧ va_Z "RuleCrypts" "FIRST_NUMBER" "[I" (.ref t0) (ac_A G) U G.1 ∧ va_Z "RuleCrypts" "LEAST_NUMBER" "[I" (.ref t1) (ac_A G) U G.1 ∧ va_Z "RuleCrypts" "MOST_NUMBER" "[I" (.ref t2) (ac_A G) U G.1) ∧
  vx_Zq Bundle.tN "UNASSIGNED_STACK" Bundle.steD (ac_A G) U G.1 ∧ vx_Zq Bundle.tN "SUPPRESSED_SENTINEL" Bundle.listD (ac_A G) U G.1
theorem ac_K.warm {G : ac_G} {l : Launch} {s U : State} (hW : s.WarmedH U.vm) (h : ac_K G l s) : ac_K G l U := by
  obtain ⟨h1, h2, h3, h4, h5, h6, ⟨t0, t1, t2, b, L, xs, e, z0, z1, z2⟩, h8, h9⟩ := h
  refine ⟨⟨h1.1, fun C hC D hD hne => va_Nc.moved hW.alike (h1.2 C hC D hD hne)⟩, va_K.moved hW.alike h2, fun w hw => ?_, fun o k tx hq => ?_, fun C hC => va_AO.moved hW.alike (h5 C hC), fun q hq => va_X.moved hW.alike (h6 q hq),
    ⟨t0, t1, t2, b, L, xs, e, va_Z.moved hW.alike z0, va_Z.moved hW.alike z1, va_Z.moved hW.alike z2⟩, vx_Zq.moved hW.alike h8, vx_Zq.moved hW.alike h9⟩
  · have hk := (List.mem_filter.mp hw).2
    have hb := h3 w hw
    cases w <;> first | exact absurd hk (by decide) | exact va_Nw.warmF hW hb | exact va_Nw.warmM hW hb | exact va_Nw.warmC hW hb | exact va_Nw.warmD hW hb | (simp [ac_nest] at hk)
  · obtain ⟨a, ha⟩ := h4 o k tx hq
    exact ⟨a, vk_R.warm hW ha⟩
