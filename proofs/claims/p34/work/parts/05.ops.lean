/-! ===== a method's body as a predicate over abstract states: one combinator an instruction, one lemma each ===== -/
abbrev ac_M : Type := ByteArray × Nat × String × Option FieldType × String × List (Nat × Nat × Nat × Nat)
def ac_tbl : List Cond := lw_tbl.filter goodWord
def ac_Cx (G : ac_G) (l : Launch) (M : ac_M) (p : Program) (s : State) (m : MethodId) (args : Array Value) (meth : Method) (c : Code) : Prop :=
  p.tables.exec = Jvm.exec ∧ c.code = M.1 ∧ c.maxLocals = M.2.1 ∧ s.vm.findClass M.2.2.1 = some m.cls ∧ (∀ w ∈ ac_tbl, w.before args s = true) ∧ ac_K G l s ∧ meth.locks = false ∧
  meth.sig.returnType = M.2.2.2.1 ∧ meth.name = M.2.2.2.2.1 ∧ c.exceptionTable.toList = tableOf M.2.2.2.2.2 ∧ G.1.size ≤ s.heap.size
def ac_lr (nL : Nat) (L : ac_L) (ls : Array Slot) : Prop := L.length = nL ∧ ls.size = nL ∧ lv_wf ls ∧ ∀ (k : Nat) (v : ac_V), L[k]? = some (some v) → ls[k]? = some (.val (ac_v v)) ∧ ac_ok v ∧ ∀ x, v ≠ .inr (.inr x)
def ac_W (G : ac_G) (nL : Nat) (p : Program) (l : Launch) (e : Env) (R : Room) (s : State) (m : MethodId) (args : Array Value) (below : List Frame) (meth : Method) (c : Code) (Q : State → Prop) (pc : Nat) (L : ac_L) (S : List ac_V) (h : ac_H) (k n : Nat) : Prop :=
  ∀ (H : Heap) (locs : List Loc) (ls : Array Slot), ac_R G h H → va_S (ac_A G) s.heap H locs → ac_lr nL L ls → (∀ v ∈ S, ac_ok v) → W p l e R s m args below meth c H locs k n Q (F0 m pc ls (S.map ac_v))
def ac_Snd (G : ac_G) (l : Launch) (R : Room) (M : ac_M) (QQ : List Frame → Array Value → State → State → Prop) (pc : Nat) (V : ac_S) : Prop :=
  ∀ (p : Program) (e : Env) (s : State) (m : MethodId) (args : Array Value) (below : List Frame) (meth : Method) (c : Code), ac_Cx G l M p s m args meth c → ∀ (L : ac_L) (S : List ac_V) (h : ac_H) (k n : Nat), V L S h k n → ac_W G M.2.1 p l e R s m args below meth c (QQ below args s) pc L S h k n
/-! the combinators -/
def wr (z : Int) : Int := Int.bmod z 4294967296
def cI (x : Int) (V : ac_S) : ac_S := fun L S h k n => V L (.inl x :: S) h k n
def cJ (x : Int) (V : ac_S) : ac_S := fun L S h k n => V L (.inr (.inr x) :: S) h k n
def cN (V : ac_S) : ac_S := fun L S h k n => V L (.inr (.inl 0) :: S) h k n
def ldI (i : Nat) (V : ac_S) : ac_S := fun L S h k n => match L[i]? with
  | some (some (.inl x)) => V L (.inl x :: S) h k n
  | _ => False
def ldR (i : Nat) (V : ac_S) : ac_S := fun L S h k n => match L[i]? with
  | some (some (.inr (.inl a))) => V L (.inr (.inl a) :: S) h k n
  | _ => False
def stI (i : Nat) (V : ac_S) : ac_S := fun L S h k n => match S with
  | .inl x :: S' => V (L.set i (some (.inl x))) S' h k n
  | _ => False
def stR (i : Nat) (V : ac_S) : ac_S := fun L S h k n => match S with
  | .inr (.inl a) :: S' => V (L.set i (some (.inr (.inl a)))) S' h k n
  | _ => False
def inc (i : Nat) (d : Int) (V : ac_S) : ac_S := fun L S h k n => match L[i]? with
  | some (some (.inl x)) => V (L.set i (some (.inl (wr (x + d))))) S h k n
  | _ => False
def bop (f : Int → Int → Int) (V : ac_S) : ac_S := fun L S h k n => match S with
  | .inl y :: .inl x :: S' => V L (.inl (f x y) :: S') h k n
  | _ => False
def iand (x y : Int) : Int := (Int32.ofInt x &&& Int32.ofInt y).toInt
def ior (x y : Int) : Int := (Int32.ofInt x ||| Int32.ofInt y).toInt
def ixor (x y : Int) : Int := (Int32.ofInt x ^^^ Int32.ofInt y).toInt
def ishl (x y : Int) : Int := (Int32.ofInt x <<< (Int32.ofInt y &&& 31)).toInt
def ishr (x y : Int) : Int := (Int32.ofInt x >>> (Int32.ofInt y &&& 31)).toInt
def iushr (x y : Int) : Int := (((Int32.ofInt x).toUInt32 >>> ((Int32.ofInt y).toUInt32 &&& Int32.toUInt32 31)).toInt32).toInt
def oAdd (V : ac_S) : ac_S := bop (fun x y => wr (x + y)) V
def oSub (V : ac_S) : ac_S := bop (fun x y => wr (x - y)) V
def oMul (V : ac_S) : ac_S := bop (fun x y => wr (x * y)) V
def oAnd (V : ac_S) : ac_S := bop iand V
def oOr (V : ac_S) : ac_S := bop ior V
def oXor (V : ac_S) : ac_S := bop ixor V
def oShl (V : ac_S) : ac_S := bop ishl V
def oShr (V : ac_S) : ac_S := bop ishr V
def oUshr (V : ac_S) : ac_S := bop iushr V
def oRem (V : ac_S) : ac_S := fun L S h k n => match S with
  | .inl y :: .inl x :: S' => (0 ≤ x ∧ 0 < y) ∧ V L (.inl (x % y) :: S') h k n
  | _ => False
def oDiv (V : ac_S) : ac_S := fun L S h k n => match S with
  | .inl y :: .inl x :: S' => (0 ≤ x ∧ 0 < y) ∧ V L (.inl (x / y) :: S') h k n
  | _ => False
def oMax (V : ac_S) : ac_S := bop (fun x y => if x < y then y else x) V
def oMin (V : ac_S) : ac_S := bop (fun x y => if y < x then y else x) V
def oI2l (V : ac_S) : ac_S := fun L S h k n => match S with
  | .inl x :: S' => V L (.inr (.inr x) :: S') h k n
  | _ => False
def oLcmp (V : ac_S) : ac_S := fun L S h k n => match S with
  | .inr (.inr y) :: .inr (.inr x) :: S' => V L (.inl (if x < y then -1 else if y < x then 1 else 0) :: S') h k n
  | _ => False
def oDup (V : ac_S) : ac_S := fun L S h k n => match S with
  | .inl x :: S' => V L (.inl x :: .inl x :: S') h k n
  | .inr (.inl a) :: S' => V L (.inr (.inl a) :: .inr (.inl a) :: S') h k n
  | _ => False
def oDupX1 (V : ac_S) : ac_S := fun L S h k n => match S with
  | .inl x :: .inr (.inl a) :: S' => V L (.inl x :: .inr (.inl a) :: .inl x :: S') h k n
  | _ => False
def oDup2 (V : ac_S) : ac_S := fun L S h k n => match S with
  | .inl x :: .inr (.inl a) :: S' => V L (.inl x :: .inr (.inl a) :: .inl x :: .inr (.inl a) :: S') h k n
  | _ => False
def oPop (V : ac_S) : ac_S := fun L S h k n => match S with
  | .inl _ :: S' => V L S' h k n
  | .inr (.inl _) :: S' => V L S' h k n
  | _ => False
def bIc (P : Int → Int → Prop) (V1 V2 : ac_S) : ac_S := fun L S h k n => match S with
  | .inl y :: .inl x :: S' => (P x y → V1 L S' h k n) ∧ (¬ P x y → V2 L S' h k n)
  | _ => False
def bI0 (P : Int → Prop) (V1 V2 : ac_S) : ac_S := fun L S h k n => match S with
  | .inl x :: S' => (P x → V1 L S' h k n) ∧ (¬ P x → V2 L S' h k n)
  | _ => False
def bNul (V1 V2 : ac_S) : ac_S := fun L S h k n => match S with
  | .inr (.inl a) :: S' => (a = 0 → V1 L S' h k n) ∧ (¬ a = 0 → V2 L S' h k n)
  | _ => False
section AO
variable {G : ac_G} {l : Launch} {R : Room} {M : ac_M} {QQ : List Frame → Array Value → State → State → Prop} {V V1 V2 : ac_S}
theorem ac_cons {v : ac_V} {S : List ac_V} (h1 : ac_ok v) (h : ∀ w ∈ S, ac_ok w) : ∀ w ∈ v :: S, ac_ok w := List.forall_mem_cons.mpr ⟨h1, h⟩
theorem s_iconst (pc : Nat) {x : Int} (d : decode M.1 pc = .ok (.iconst x, 1)) (hx : ac_irg x) (hV : ac_Snd G l R M QQ (pc + 1) V) : ac_Snd G l R M QQ pc (cI x V) := by
  intro p e s m args below meth c C L S h k n hv H locs ls hR hS hl hs
  exact lv_iconst C.1 C.2.1 d rfl (hV p e s m args below meth c C _ _ _ _ _ hv H locs ls hR hS hl (ac_cons hx hs))
theorem s_bipush (pc : Nat) {x : Int} (d : decode M.1 pc = .ok (.bipush x, 2)) (hx : ac_irg x) (hv8 : (Int8.ofInt x).toInt32 = Int32.ofInt x) (hV : ac_Snd G l R M QQ (pc + 2) V) : ac_Snd G l R M QQ pc (cI x V) := by
  intro p e s m args below meth c C L S h k n hv H locs ls hR hS hl hs
  exact lv_bipush C.1 C.2.1 d hv8 (hV p e s m args below meth c C _ _ _ _ _ hv H locs ls hR hS hl (ac_cons hx hs))
theorem s_sipush (pc : Nat) {x : Int} (d : decode M.1 pc = .ok (.sipush x, 3)) (hx : ac_irg x) (hv8 : (Int16.ofInt x).toInt32 = Int32.ofInt x) (hV : ac_Snd G l R M QQ (pc + 3) V) : ac_Snd G l R M QQ pc (cI x V) := by
  intro p e s m args below meth c C L S h k n hv H locs ls hR hS hl hs
  exact lv_sipush C.1 C.2.1 d hv8 (hV p e s m args below meth c C _ _ _ _ _ hv H locs ls hR hS hl (ac_cons hx hs))
theorem s_ldc (pc : Nat) {x : Int} {i : Nat} {own : String} (ho : M.2.2.1 = own) (hw : Cond.constant own i (Int32.ofInt x) ∈ ac_tbl) (d : decode M.1 pc = .ok (.ldc i, 2)) (hx : ac_irg x) (hV : ac_Snd G l R M QQ (pc + 2) V) : ac_Snd G l R M QQ pc (cI x V) := by
  subst ho
  intro p e s m args below meth c C L S h k n hv H locs ls hR hS hl hs
  exact lv_ldc C.1 C.2.1 C.2.2.2.1 (C.2.2.2.2.1 _ hw) d (hV p e s m args below meth c C _ _ _ _ _ hv H locs ls hR hS hl (ac_cons hx hs))
theorem s_lconst (pc : Nat) {i : Fin 2} {x : Int} (d : decode M.1 pc = .ok (.lconst i, 1)) (hx : ac_jrg x) (hi : Int64.ofNat (i : Nat) = Int64.ofInt x) (hV : ac_Snd G l R M QQ (pc + 1) V) : ac_Snd G l R M QQ pc (cJ x V) := by
  intro p e s m args below meth c C L S h k n hv H locs ls hR hS hl hs
  exact lv_lconst C.1 C.2.1 d hi (hV p e s m args below meth c C _ _ _ _ _ hv H locs ls hR hS hl (ac_cons hx hs))
theorem s_null (pc : Nat) (d : decode M.1 pc = .ok (.aconst_null, 1)) (hV : ac_Snd G l R M QQ (pc + 1) V) : ac_Snd G l R M QQ pc (cN V) := by
  intro p e s m args below meth c C L S h k n hv H locs ls hR hS hl hs
  exact lv_null C.1 C.2.1 d (hV p e s m args below meth c C _ _ _ _ _ hv H locs ls hR hS hl (ac_cons (Int.le_refl 0) hs))
theorem ac_ldI {i : Nat} {L : ac_L} {S : List ac_V} {h : ac_H} {k n : Nat} (hv : ldI i V L S h k n) : ∃ x, L[i]? = some (some (.inl x)) ∧ V L (.inl x :: S) h k n := by
  unfold ldI at hv
  split at hv
  · exact ⟨_, by assumption, hv⟩
  · exact hv.elim
theorem ac_ldR {i : Nat} {L : ac_L} {S : List ac_V} {h : ac_H} {k n : Nat} (hv : ldR i V L S h k n) : ∃ a, L[i]? = some (some (.inr (.inl a))) ∧ V L (.inr (.inl a) :: S) h k n := by
  unfold ldR at hv
  split at hv
  · exact ⟨_, by assumption, hv⟩
  · exact hv.elim
theorem s_iload_n (pc : Nat) {i : Fin 4} {j : Nat} (d : decode M.1 pc = .ok (.iload_n i, 1)) (hj : (i : Nat) = j) (hV : ac_Snd G l R M QQ (pc + 1) V) : ac_Snd G l R M QQ pc (ldI j V) := by
  intro p e s m args below meth c C L S h k n hv H locs ls hR hS hl hs
  obtain ⟨x, hx, hv⟩ := ac_ldI hv
  obtain ⟨q1, q2, -⟩ := hl.2.2.2 _ _ hx
  exact lv_iload_n C.1 C.2.1 d hj q1 (hV p e s m args below meth c C _ _ _ _ _ hv H locs ls hR hS hl (ac_cons q2 hs))
theorem s_iload (pc : Nat) {j : Nat} (d : decode M.1 pc = .ok (.iload j, 2)) (hV : ac_Snd G l R M QQ (pc + 2) V) : ac_Snd G l R M QQ pc (ldI j V) := by
  intro p e s m args below meth c C L S h k n hv H locs ls hR hS hl hs
  obtain ⟨x, hx, hv⟩ := ac_ldI hv
  obtain ⟨q1, q2, -⟩ := hl.2.2.2 _ _ hx
  exact lv_iload C.1 C.2.1 d q1 (hV p e s m args below meth c C _ _ _ _ _ hv H locs ls hR hS hl (ac_cons q2 hs))
theorem s_aload_n (pc : Nat) {i : Fin 4} {j : Nat} (d : decode M.1 pc = .ok (.aload_n i, 1)) (hj : (i : Nat) = j) (hV : ac_Snd G l R M QQ (pc + 1) V) : ac_Snd G l R M QQ pc (ldR j V) := by
  intro p e s m args below meth c C L S h k n hv H locs ls hR hS hl hs
  obtain ⟨a, hx, hv⟩ := ac_ldR hv
  obtain ⟨q1, q2, -⟩ := hl.2.2.2 _ _ hx
  have K := hV p e s m args below meth c C _ _ _ _ _ hv H locs ls hR hS hl (ac_cons q2 hs)
  by_cases ha : a ≤ 0
  · have e1 : ac_v (.inr (.inl a)) = .null := if_pos ha
    rw [e1] at q1
    rw [List.map_cons, e1] at K
    exact lv_aload_nN C.1 C.2.1 d hj q1 K
  · have e1 : ac_v (.inr (.inl a)) = .ref (a - 1).toNat := if_neg ha
    rw [e1] at q1
    rw [List.map_cons, e1] at K
    exact lv_aload_n C.1 C.2.1 d hj q1 K
theorem s_aload (pc : Nat) {j : Nat} (d : decode M.1 pc = .ok (.aload j, 2)) (hV : ac_Snd G l R M QQ (pc + 2) V) : ac_Snd G l R M QQ pc (ldR j V) := by
  intro p e s m args below meth c C L S h k n hv H locs ls hR hS hl hs
  obtain ⟨a, hx, hv⟩ := ac_ldR hv
  obtain ⟨q1, q2, -⟩ := hl.2.2.2 _ _ hx
  have K := hV p e s m args below meth c C _ _ _ _ _ hv H locs ls hR hS hl (ac_cons q2 hs)
  by_cases ha : a ≤ 0
  · have e1 : ac_v (.inr (.inl a)) = .null := if_pos ha
    rw [e1] at q1
    rw [List.map_cons, e1] at K
    exact lv_aloadN C.1 C.2.1 d q1 K
  · have e1 : ac_v (.inr (.inl a)) = .ref (a - 1).toNat := if_neg ha
    rw [e1] at q1
    rw [List.map_cons, e1] at K
    exact lv_aload C.1 C.2.1 d q1 K
/-- the locals as the kit lists them -/
def ac_ll (L : ac_L) : List (Nat × Value) := (List.range L.length).filterMap (fun i => match L[i]? with | some (some v) => some (i, ac_v v) | _ => none)
theorem ac_ll_mem {L : ac_L} {q : Nat × Value} (h : q ∈ ac_ll L) : ∃ v, L[q.1]? = some (some v) ∧ q.2 = ac_v v := by
  obtain ⟨i, -, hi⟩ := List.mem_filterMap.mp h
  split at hi
  · next v hv => cases hi; exact ⟨v, hv, rfl⟩
  · cases hi
theorem ac_ll_in {L : ac_L} {i : Nat} {v : ac_V} (h : L[i]? = some (some v)) : (i, ac_v v) ∈ ac_ll L :=
  List.mem_filterMap.mpr ⟨i, List.mem_range.mpr (List.getElem?_eq_some_iff.mp h).1, by rw [h]⟩
theorem ac_has {nL : Nat} {L : ac_L} {ls : Array Slot} (hl : ac_lr nL L ls) : lv_has ls nL (ac_ll L) := by
  refine ⟨hl.2.1, hl.2.2.1, fun q hq => ?_⟩
  obtain ⟨v, h1, h2⟩ := ac_ll_mem hq
  rw [h2]
  exact (hl.2.2.2 _ _ h1).1
theorem ac_lr.set {nL i : Nat} {L : ac_L} {ls ls' : Array Slot} {v : ac_V} (hl : ac_lr nL L ls) (hok : ac_ok v) (hv : ∀ x, v ≠ .inr (.inr x)) (hi : i < nL)
    (h' : lv_has ls' nL ((i, ac_v v) :: (ac_ll L).filter (fun q => !(q.1 == i) && !(q.1 + 1 == i && q.2.category == 2)))) : ac_lr nL (L.set i (some v)) ls' := by
  refine ⟨by rw [List.length_set]; exact hl.1, h'.1, h'.2.1, fun j w hw => ?_⟩
  by_cases e : j = i
  · subst e
    rw [List.getElem?_set_self (by rw [hl.1]; exact hi)] at hw
    cases hw
    exact ⟨h'.2.2 _ List.mem_cons_self, hok, hv⟩
  · rw [List.getElem?_set_ne (Ne.symm e)] at hw
    obtain ⟨-, q2, q3⟩ := hl.2.2.2 _ _ hw
    refine ⟨h'.2.2 _ (List.mem_cons_of_mem _ (List.mem_filter.mpr ⟨ac_ll_in hw, ?_⟩)), q2, q3⟩
    simp [e, ac_cat1 w q3]
theorem s_istore_n (pc : Nat) {i : Fin 4} {j : Nat} (d : decode M.1 pc = .ok (.istore_n i, 1)) (hj : (i : Nat) = j) (hn : j < M.2.1) (hV : ac_Snd G l R M QQ (pc + 1) V) : ac_Snd G l R M QQ pc (stI j V) := by
  intro p e s m args below meth c C L S h k n hv H locs ls hR hS hl hs
  match S, hv, hs with
  | .inl x :: S', hv, hs =>
    obtain ⟨h1, h2⟩ := List.forall_mem_cons.mp hs
    exact lv_istore_n C.1 C.2.1 d hj (ac_has hl) hn rfl fun ls' h' => hV p e s m args below meth c C _ _ _ _ _ hv H locs ls' hR hS (hl.set (v := .inl x) h1 (fun _ q => by cases q) hn h') h2
theorem s_istore (pc : Nat) {j : Nat} (d : decode M.1 pc = .ok (.istore j, 2)) (hn : j < M.2.1) (hV : ac_Snd G l R M QQ (pc + 2) V) : ac_Snd G l R M QQ pc (stI j V) := by
  intro p e s m args below meth c C L S h k n hv H locs ls hR hS hl hs
  match S, hv, hs with
  | .inl x :: S', hv, hs =>
    obtain ⟨h1, h2⟩ := List.forall_mem_cons.mp hs
    exact lv_istore C.1 C.2.1 d (ac_has hl) hn rfl fun ls' h' => hV p e s m args below meth c C _ _ _ _ _ hv H locs ls' hR hS (hl.set (v := .inl x) h1 (fun _ q => by cases q) hn h') h2
theorem s_astore_n (pc : Nat) {i : Fin 4} {j : Nat} (d : decode M.1 pc = .ok (.astore_n i, 1)) (hj : (i : Nat) = j) (hn : j < M.2.1) (hV : ac_Snd G l R M QQ (pc + 1) V) : ac_Snd G l R M QQ pc (stR j V) := by
  intro p e s m args below meth c C L S h k n hv H locs ls hR hS hl hs
  match S, hv, hs with
  | .inr (.inl a) :: S', hv, hs =>
    obtain ⟨h1, h2⟩ := List.forall_mem_cons.mp hs
    have K : ∀ ls' : Array Slot, _ → _ := fun ls' h' => hV p e s m args below meth c C _ _ _ _ _ hv H locs ls' hR hS (hl.set (i := j) (v := .inr (.inl a)) h1 (fun _ q => by cases q) hn h') h2
    by_cases ha : a ≤ 0
    · have e1 : ac_v (.inr (.inl a)) = .null := if_pos ha
      rw [e1] at K
      rw [List.map_cons, e1]
      exact lv_astore_nN C.1 C.2.1 d hj (ac_has hl) hn rfl K
    · have e1 : ac_v (.inr (.inl a)) = .ref (a - 1).toNat := if_neg ha
      rw [e1] at K
      rw [List.map_cons, e1]
      exact lv_astore_n C.1 C.2.1 d hj (ac_has hl) hn rfl K
theorem s_astore (pc : Nat) {j : Nat} (d : decode M.1 pc = .ok (.astore j, 2)) (hn : j < M.2.1) (hV : ac_Snd G l R M QQ (pc + 2) V) : ac_Snd G l R M QQ pc (stR j V) := by
  intro p e s m args below meth c C L S h k n hv H locs ls hR hS hl hs
  match S, hv, hs with
  | .inr (.inl a) :: S', hv, hs =>
    obtain ⟨h1, h2⟩ := List.forall_mem_cons.mp hs
    have K : ∀ ls' : Array Slot, _ → _ := fun ls' h' => hV p e s m args below meth c C _ _ _ _ _ hv H locs ls' hR hS (hl.set (i := j) (v := .inr (.inl a)) h1 (fun _ q => by cases q) hn h') h2
    by_cases ha : a ≤ 0
    · have e1 : ac_v (.inr (.inl a)) = .null := if_pos ha
      rw [e1] at K
      rw [List.map_cons, e1]
      exact lv_astoreN C.1 C.2.1 d (ac_has hl) hn rfl K
    · have e1 : ac_v (.inr (.inl a)) = .ref (a - 1).toNat := if_neg ha
      rw [e1] at K
      rw [List.map_cons, e1]
      exact lv_astore C.1 C.2.1 d (ac_has hl) hn rfl K
theorem ac_wrr (z : Int) : ac_irg (wr z) := by unfold wr ac_irg; exact ⟨by have := Int.le_bmod (x := z) (m := 4294967296) (by omega); omega, by have := Int.bmod_lt (x := z) (m := 4294967296) (by omega); omega⟩
theorem ac_wr1 (z : Int) : Int32.ofInt (wr z) = Int32.ofInt z := by
  apply Int32.toInt_inj.mp
  rw [ac_ti (ac_wrr z), Int32.toInt_ofInt]
  rfl
theorem wr_eq {z : Int} (h : ac_irg z) : wr z = z := Int.bmod_eq_of_le (by have := h.1; omega) (by have := h.2; omega)
theorem s_iinc (pc : Nat) {j : Nat} {dd : Int} (d : decode M.1 pc = .ok (.iinc j dd, 3)) (hn : j < M.2.1) (hV : ac_Snd G l R M QQ (pc + 3) V) : ac_Snd G l R M QQ pc (inc j dd V) := by
  intro p e s m args below meth c C L S h k n hv H locs ls hR hS hl hs
  unfold inc at hv
  split at hv
  · next x hx =>
    obtain ⟨q, hq⟩ := List.getElem?_of_mem (ac_ll_in hx)
    refine lv_iinc C.1 C.2.1 d (ac_has hl) hq rfl hn rfl fun ls' h' => hV p e s m args below meth c C _ _ _ _ _ hv H locs ls' hR hS (hl.set (v := .inl (wr (x + dd))) (ac_wrr _) (fun _ q => by cases q) hn ?_) hs
    have e1 : ac_v (.inl (wr (x + dd))) = .int (Int32.ofInt x + Int32.ofInt dd) := by
      show Value.int _ = _
      rw [ac_wr1, Int32.ofInt_add]
    rw [e1]
    exact h'
  · exact hv.elim
theorem ac_bop {f : Int → Int → Int} {i : Instr} (pc : Nat) (d : decode M.1 pc = .ok (i, 1)) (hf : ∀ x y, ac_irg x → ac_irg y → ac_irg (f x y))
    (row : ∀ {p : Program} {e : Env} {R : Room} {s : State} {m : MethodId} {args : Array Value} {below : List Frame} {meth : Method} {c : Code} {H : Heap} {locs : List Loc} {k n : Nat} {Q : State → Prop} {ls : Array Slot} {rest : List Value} (x y : Int), ac_irg x → ac_irg y → p.tables.exec = Jvm.exec → c.code = M.1 →
      W p l e R s m args below meth c H locs k n Q (F0 m (pc + 1) ls (.int (Int32.ofInt (f x y)) :: rest)) → W p l e R s m args below meth c H locs k n Q (F0 m pc ls (.int (Int32.ofInt y) :: .int (Int32.ofInt x) :: rest)))
    (hV : ac_Snd G l R M QQ (pc + 1) V) : ac_Snd G l R M QQ pc (bop f V) := by
  intro p e s m args below meth c C L S h k n hv H locs ls hR hS hl hs
  match S, hv, hs with
  | .inl y :: .inl x :: S', hv, hs =>
    obtain ⟨h1, h2⟩ := List.forall_mem_cons.mp hs
    obtain ⟨h3, h4⟩ := List.forall_mem_cons.mp h2
    exact row x y h3 h1 C.1 C.2.1 (hV p e s m args below meth c C _ _ _ _ _ hv H locs ls hR hS hl (ac_cons (hf x y h3 h1) h4))
theorem s_iadd (pc : Nat) (d : decode M.1 pc = .ok (.iadd, 1)) (hV : ac_Snd G l R M QQ (pc + 1) V) : ac_Snd G l R M QQ pc (oAdd V) :=
  ac_bop pc d (fun _ _ _ _ => ac_wrr _) (fun x y _ _ hx hb kk => lv_iadd hx hb d (by rw [ac_wr1, Int32.ofInt_add] at kk; exact kk)) hV
theorem s_isub (pc : Nat) (d : decode M.1 pc = .ok (.isub, 1)) (hV : ac_Snd G l R M QQ (pc + 1) V) : ac_Snd G l R M QQ pc (oSub V) :=
  ac_bop pc d (fun _ _ _ _ => ac_wrr _) (fun x y _ _ hx hb kk => lv_isub hx hb d (by rw [ac_wr1, Int32.ofInt_sub] at kk; exact kk)) hV
theorem s_imul (pc : Nat) (d : decode M.1 pc = .ok (.imul, 1)) (hV : ac_Snd G l R M QQ (pc + 1) V) : ac_Snd G l R M QQ pc (oMul V) :=
  ac_bop pc d (fun _ _ _ _ => ac_wrr _) (fun x y _ _ hx hb kk => lv_imul hx hb d (by rw [ac_wr1, Int32.ofInt_mul] at kk; exact kk)) hV
theorem s_iand (pc : Nat) (d : decode M.1 pc = .ok (.iand, 1)) (hV : ac_Snd G l R M QQ (pc + 1) V) : ac_Snd G l R M QQ pc (oAnd V) :=
  ac_bop pc d (fun _ _ _ _ => ac_iir _) (fun x y _ _ hx hb kk => lv_iand hx hb d (by unfold iand at kk; rw [ac_io] at kk; exact kk)) hV
theorem s_ior (pc : Nat) (d : decode M.1 pc = .ok (.ior, 1)) (hV : ac_Snd G l R M QQ (pc + 1) V) : ac_Snd G l R M QQ pc (oOr V) :=
  ac_bop pc d (fun _ _ _ _ => ac_iir _) (fun x y _ _ hx hb kk => lv_ior hx hb d (by unfold ior at kk; rw [ac_io] at kk; exact kk)) hV
theorem s_ixor (pc : Nat) (d : decode M.1 pc = .ok (.ixor, 1)) (hV : ac_Snd G l R M QQ (pc + 1) V) : ac_Snd G l R M QQ pc (oXor V) :=
  ac_bop pc d (fun _ _ _ _ => ac_iir _) (fun x y _ _ hx hb kk => lv_ixor hx hb d (by unfold ixor at kk; rw [ac_io] at kk; exact kk)) hV
theorem s_ishl (pc : Nat) (d : decode M.1 pc = .ok (.ishl, 1)) (hV : ac_Snd G l R M QQ (pc + 1) V) : ac_Snd G l R M QQ pc (oShl V) :=
  ac_bop pc d (fun _ _ _ _ => ac_iir _) (fun x y _ _ hx hb kk => lv_ishl hx hb d (by unfold ishl at kk; rw [ac_io] at kk; exact kk)) hV
theorem s_ishr (pc : Nat) (d : decode M.1 pc = .ok (.ishr, 1)) (hV : ac_Snd G l R M QQ (pc + 1) V) : ac_Snd G l R M QQ pc (oShr V) :=
  ac_bop pc d (fun _ _ _ _ => ac_iir _) (fun x y _ _ hx hb kk => lv_ishr hx hb d (by unfold ishr at kk; rw [ac_io] at kk; exact kk)) hV
theorem s_iushr (pc : Nat) (d : decode M.1 pc = .ok (.iushr, 1)) (hV : ac_Snd G l R M QQ (pc + 1) V) : ac_Snd G l R M QQ pc (oUshr V) :=
  ac_bop pc d (fun _ _ _ _ => ac_iir _) (fun x y _ _ hx hb kk => lv_iushr hx hb d rfl (by unfold iushr at kk; rw [ac_io] at kk; exact kk)) hV
theorem ac_nat {x : Int} (h0 : 0 ≤ x) : Int32.ofInt x = nI x.toNat := by
  unfold nI
  rw [show Int32.ofNat x.toNat = Int32.ofInt (x.toNat : Int) from (Int32.ofInt_eq_ofNat).symm]
  congr 1
  omega
theorem s_irem (pc : Nat) (d : decode M.1 pc = .ok (.irem, 1)) (hV : ac_Snd G l R M QQ (pc + 1) V) : ac_Snd G l R M QQ pc (oRem V) := by
  intro p e s m args below meth c C L S h k n hv H locs ls hR hS hl hs
  match S, hv, hs with
  | .inl y :: .inl x :: S', ⟨⟨x0, y0⟩, hv⟩, hs =>
    obtain ⟨h1, h2⟩ := List.forall_mem_cons.mp hs
    obtain ⟨h3, h4⟩ := List.forall_mem_cons.mp h2
    have hx2 : x < 2147483648 := h3.2
    have hy2 : y < 2147483648 := h1.2
    have b1 := Int.emod_nonneg x (b := y) (by omega)
    have b2 := Int.emod_lt_of_pos x y0
    have K := hV p e s m args below meth c C _ _ _ _ _ hv H locs ls hR hS hl (ac_cons (v := .inl (x % y)) ⟨by omega, by omega⟩ h4)
    refine lv_irem C.1 C.2.1 d (by rw [← ac_0, ac_eq h1 ⟨by omega, by omega⟩]; omega) ?_
    rw [ac_nat x0, ac_nat (x := y) (by omega), pk_rem (by omega) (by omega) (by omega)]
    have e2 : Int32.ofInt (x % y) = nI (x.toNat % y.toNat) := by
      rw [ac_nat b1]
      congr 1
      have : ((x.toNat % y.toNat : Nat) : Int) = x % y := by rw [Int.natCast_emod, Int.toNat_of_nonneg x0, Int.toNat_of_nonneg (by omega)]
      omega
    rw [← e2]
    exact K
theorem s_idiv (pc : Nat) (d : decode M.1 pc = .ok (.idiv, 1)) (hV : ac_Snd G l R M QQ (pc + 1) V) : ac_Snd G l R M QQ pc (oDiv V) := by
  intro p e s m args below meth c C L S h k n hv H locs ls hR hS hl hs
  match S, hv, hs with
  | .inl y :: .inl x :: S', ⟨⟨x0, y0⟩, hv⟩, hs =>
    obtain ⟨h1, h2⟩ := List.forall_mem_cons.mp hs
    obtain ⟨h3, h4⟩ := List.forall_mem_cons.mp h2
    have hx2 : x < 2147483648 := h3.2
    have hy2 : y < 2147483648 := h1.2
    have b1 := Int.ediv_nonneg x0 (by omega : 0 ≤ y)
    have b2 := Int.ediv_le_self y x0
    have K := hV p e s m args below meth c C _ _ _ _ _ hv H locs ls hR hS hl (ac_cons (v := .inl (x / y)) ⟨by omega, by omega⟩ h4)
    refine lv_idiv C.1 C.2.1 d (by rw [← ac_0, ac_eq h1 ⟨by omega, by omega⟩]; omega) ?_
    rw [ac_nat x0, ac_nat (x := y) (by omega), pk_div (by omega) (by omega) (by omega)]
    have e2 : Int32.ofInt (x / y) = nI (x.toNat / y.toNat) := by
      rw [ac_nat b1]
      congr 1
      have : ((x.toNat / y.toNat : Nat) : Int) = x / y := by rw [Int.natCast_ediv, Int.toNat_of_nonneg x0, Int.toNat_of_nonneg (by omega)]
      omega
    rw [← e2]
    exact K
theorem s_i2l (pc : Nat) (d : decode M.1 pc = .ok (.i2l, 1)) (hV : ac_Snd G l R M QQ (pc + 1) V) : ac_Snd G l R M QQ pc (oI2l V) := by
  intro p e s m args below meth c C L S h k n hv H locs ls hR hS hl hs
  match S, hv, hs with
  | .inl x :: S', hv, hs =>
    obtain ⟨h1, h2⟩ := List.forall_mem_cons.mp hs
    have b1 : -2147483648 ≤ x := h1.1
    have b2 : x < 2147483648 := h1.2
    have hj : ac_jrg x := ⟨by omega, by omega⟩
    refine lv_i2l C.1 C.2.1 d ?_ (hV p e s m args below meth c C _ _ _ _ _ hv H locs ls hR hS hl (ac_cons (v := .inr (.inr x)) hj h2))
    apply Int64.toInt_inj.mp
    rw [Int32.toInt_toInt64, ac_ti h1, ac_tj hj]
theorem s_lcmp (pc : Nat) (d : decode M.1 pc = .ok (.lcmp, 1)) (hV : ac_Snd G l R M QQ (pc + 1) V) : ac_Snd G l R M QQ pc (oLcmp V) := by
  intro p e s m args below meth c C L S h k n hv H locs ls hR hS hl hs
  match S, hv, hs with
  | .inr (.inr y) :: .inr (.inr x) :: S', hv, hs =>
    obtain ⟨h1, h2⟩ := List.forall_mem_cons.mp hs
    obtain ⟨h3, h4⟩ := List.forall_mem_cons.mp h2
    have hc : ac_irg (if x < y then -1 else if y < x then 1 else 0) := by
      split
      · exact ⟨by omega, by omega⟩
      · split <;> exact ⟨by omega, by omega⟩
    have K := hV p e s m args below meth c C _ _ _ _ _ hv H locs ls hR hS hl (ac_cons (v := .inl (if x < y then -1 else if y < x then 1 else 0)) hc h4)
    refine W.lcmp C.1 C.2.1 d ?_
    have e2 : lg_cmp (Int64.ofInt x) (Int64.ofInt y) = Int32.ofInt (if x < y then -1 else if y < x then 1 else 0) := by
      have c1 : Int64.ofInt y < Int64.ofInt x ↔ y < x := by rw [Int64.lt_iff_toInt_lt, ac_tj h1, ac_tj h3]
      have c2 : Int64.ofInt x < Int64.ofInt y ↔ x < y := by rw [Int64.lt_iff_toInt_lt, ac_tj h1, ac_tj h3]
      have c3 : Int64.ofInt x = Int64.ofInt y ↔ x = y := by rw [← Int64.toInt_inj, ac_tj h1, ac_tj h3]
      unfold lg_cmp
      simp only [c1, c2, c3]
      by_cases q1 : x < y
      · have : ¬ y < x := by omega
        have : ¬ x = y := by omega
        simp [*]
      · by_cases q2 : y < x
        · simp [*]
        · have : x = y := by omega
          simp [*]
    rw [e2]
    exact K
end AO
