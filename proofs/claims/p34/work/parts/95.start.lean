/-! THE CLAIM OUT OF ONE WALK OF THE LAW'S BODY. Your part is whole_start (and what it stands on); all else here is the same for every law, but numbers. -/
def R_law : String := "RuleCryptsLaw"
def lw_P (b : Addr) (xs : List Int32) (args : Array Value) (s : State) : Prop := args = #[.ref b] ∧ s.IntsAt b xs ∧ xs.length ≤ 260 ∧ (Jvm.Cond.and given_1 narrow_1).before args s = true
def lw_Q (_ : Array Value) (s : State) (o : Outcome) (t : State) : Prop := o = .returned (some (.int 1)) ∧ Framed s o t [] 600104 7301314
def lw_Z (below : List Frame) (a : Array Value) (s : State) : State → Prop := fun t => ∃ o, t.status = .running ∧ Ended t below o ∧ lw_Q a s o t
/-- the law's own end, with 1 on the stack, nothing written that was there before, its room as the claim has it -/
theorem lw_ret {p : Program} {l : Launch} {e : Env} {s : State} {m : MethodId} {below : List Frame} {meth : Method} {c : Code} {b : Nat} (hx : p.tables.exec = Jvm.exec) (hb : c.code = code) (hr : meth.sig.returnType = ret) (hlocks : meth.locks = false) {pc : Nat} {H : Heap} {ls : Array Slot} (hdg : decode code pc = .ok (.ireturn, 1)) : W p l e room_1 s m #[Value.ref b] below meth c H [] 600104 7301314 (lw_Z below #[Value.ref b] s) (F0 m pc ls [.int 1]) := by
  intro T hT X
  obtain ⟨fs, hret, hrun, hended, hW, hframe⟩ := X.leave (v := some (.int 1)) (hlocks := hlocks) (fun h => by rw [hr] at h; cases h)
  have hmeth' : T.vm.method? m = some meth := X.method'
  refine ⟨T.setFrames fs, ?_, .returned (some (.int 1)), hrun, hended, rfl, ⟨_, rfl⟩, hW, hframe⟩
  jvm_step X.here [X.here.top, hx, hb, hdg, hmeth', hr, ret, narrow_b1]
  (try refine ⟨rfl, ?_⟩); (try refine ⟨rfl, ?_⟩)
  first | (intro acts; rw [hret _ acts rfl rfl rfl]) | rw [hret _ _ rfl rfl rfl]
  exact Steps.refl _
/-- what holds at the law's entry: the machine, the code, the tables' words (any of lw_tbl by 'hts w (by decide +kernel)'), the script of L ints xs at the cell b, what the Statement gives of the start (any of its parts by flat_of_before) -/
def lw_At (p : Program) (s : State) (m : MethodId) (meth : Method) (c : Code) (b L : Nat) (xs : Nat → Int32) : Prop :=
  p.tables.exec = Jvm.exec ∧ c.code = code ∧ meth.sig.returnType = ret ∧ c.maxLocals = 7 ∧ s.vm.findClass R_law = some m.cls ∧ (∀ w ∈ lw_tbl, w.before #[Value.ref b] s = true) ∧ va_X b L xs s s.heap ∧ b < s.heap.size ∧ meth.locks = false ∧ (Jvm.Cond.and given_1 narrow_1).before #[Value.ref b] s = true
theorem ws_str {own tx : String} {k : Nat} {A : Array Value} {s : State} (h : (Cond.stringRef own k tx).before A s = true) : ∃ a, vk_R own k tx a s := by
  have h0 := h
  simp only [Cond.before, Cond.holds, Cond.value] at h
  cases hc : s.vm.findClass own with
  | none => simp [hc] at h
  | some c =>
    cases hr : s.resolvedAt? own k with
    | none => simp [hc, hr] at h
    | some r =>
      cases r with
      | string a =>
        refine ⟨a, vk_R.of h0 (A := A) ?_⟩
        simp only [State.resolvedAt?, Option.bind_eq_bind, Option.bind_eq_some_iff] at hr
        obtain ⟨c1, e1, k1, e2, e3⟩ := hr
        simp only [Term.eval, Option.bind_eq_bind]
        rw [e1]
        simp only [Option.bind_some]
        rw [e2]
        simp only [Option.bind_some]
        rw [e3]
        rfl
      | _ => simp [hc, hr] at h
theorem ws_in {w : Cond} (h : w ∈ ac_tbl) : w ∈ lw_tbl := (List.mem_filter.mp h).1
theorem ws_nest {A : Array Value} {s : State} (hts : ∀ w ∈ lw_tbl, w.before A s = true) : ∀ w ∈ tables_1.filter ac_nest, va_Nw w s := by
  intro w hw
  obtain ⟨a, b⟩ := List.mem_filter.mp hw
  have h := hts w (List.mem_append_right _ a)
  refine va_Nw.of ?_ h
  cases w <;> first | rfl | (simp [ac_nest] at b; done)
theorem ws_arr1 {A : Array Value} {s : State} {ty : FieldType} (h : (Cond.arrayClass ty).before A s = true) (hn : ∀ C, ty ≠ .object C) : ∃ c, ArrOfT s c ty ∧ va_RA s c ty := by
  obtain ⟨c, k, comp, h1, h2, h3⟩ := Cond.arrayClass_spec h
  refine ⟨c, fun n z => ⟨fun q hq => (by cases hq), k, h2, comp, h3⟩, ?_⟩
  cases ty <;> first | exact h1 | exact absurd rfl (hn _)
theorem ws_arr2 {A : Array Value} {s : State} {C : String} (h : (Cond.arrayOver (.object C)).before A s = true) : ∃ c, ArrOfT s c (.object C) ∧ va_RA s c (.object C) := by
  obtain ⟨comp, c, k, h1, h2, h3, h4, h5⟩ := Cond.arrayOver_spec h
  exact ⟨c, fun n z => ⟨fun q hq => (by cases hq), k, h3, comp, h4⟩, k, comp, h3, h4, h1, h5⟩
theorem ws_len {args : Array Value} {s : State} {t : Term} {v : Value} (h : (Term.length t).eval args s none [] s = some v) : ∃ a cell, t.eval args s none [] s = some (.ref a) ∧ s.arrayAt? a = some cell ∧ v = .int cell.slots.size.toInt32 ∧ cell.slots.size < 2147483648 := by
  simp only [Term.eval, Option.bind_eq_bind] at h
  cases ht : t.eval args s none [] s with
  | none => simp [ht] at h
  | some x =>
    cases x <;> simp [ht] at h
    case ref a =>
      obtain ⟨cell, hcell, h⟩ := Option.bind_eq_some_iff.mp h
      by_cases hn : cell.slots.size < 2147483648
      · rw [if_pos hn] at h; cases h; exact ⟨a, cell, rfl, hcell, rfl, hn⟩
      · rw [if_neg hn] at h; cases h
theorem ws_const {args : Array Value} {s : State} {t : Term} {v : Nat → Int32} (ha : (Cond.arrayOf t .int).before args s = true) (hl : (Cond.eq (.length t) (.int 6)).before args s = true) (he : ∀ j : Nat, j < 6 → (Cond.eq (.elem t (.int (Int32.ofNat j))) (.int (v j))).before args s = true) : ∃ a, t.eval args s none [] s = some (.ref a) ∧ va_X a 6 v s s.heap ∧ a < s.heap.size := by
  obtain ⟨a, cell, e1, e2, e3, e4⟩ := ws_len (Cond.eq_int hl (n := 6) rfl)
  obtain ⟨hh, hu, -⟩ := State.arrayAt?_spec e2
  obtain ⟨io, -⟩ := Cond.arrayOf_spec ha e1 hh
  have hz : cell.slots.size.toInt32 = 6 := (Value.int.inj e3).symm
  have s6 : cell.slots.size = 6 := by
    have a1 : cell.slots.size ≤ 6 := (Int32.ofNat_le_ofNat e4 (by decide)).mp (by show cell.slots.size.toInt32 ≤ 6; rw [hz]; exact Int32.le_refl 6)
    have a2 : 6 ≤ cell.slots.size := (Int32.ofNat_le_ofNat (by decide) e4).mp (by show (6 : Int32) ≤ cell.slots.size.toInt32; rw [hz]; exact Int32.le_refl 6)
    omega
  refine ⟨a, e1, ⟨cell, hh, io, hu, s6, fun j hj => ?_⟩, (Array.getElem?_eq_some_iff.mp hh).1⟩
  obtain ⟨a9, j9, cell9, g1, g2, g3, -, g5⟩ := Term.elem_spec (Cond.eq_int (he j hj) (n := v j) rfl)
  cases Option.some.inj (e1.symm.trans g1)
  cases Option.some.inj (e2.symm.trans g3)
  have : j9 = Int32.ofNat j := by
    have g2 : some (Value.int (Int32.ofNat j)) = some (Value.int j9) := g2
    cases g2; rfl
  rw [this] at g5
  have jj : (Int32.ofNat j).toNatClampNeg = j := by
    have c : j = 0 ∨ j = 1 ∨ j = 2 ∨ j = 3 ∨ j = 4 ∨ j = 5 := by omega
    rcases c with rfl | rfl | rfl | rfl | rfl | rfl <;> rfl
  rw [jj] at g5
  exact g5
theorem ws_FIRST_NUMBER {b : Nat} {s : State} (hg : ∀ w ∈ flatC (Jvm.Cond.and given_1 narrow_1), w.before #[Value.ref b] s = true) : ∃ a, (Term.static "RuleCrypts" "FIRST_NUMBER" "[I").eval #[Value.ref b] s none [] s = some (.ref a) ∧ va_X a 6 ac_tb0 s s.heap ∧ a < s.heap.size :=
  ws_const (t := .static "RuleCrypts" "FIRST_NUMBER" "[I") (v := ac_tb0) (hg _ (by decide +kernel)) (hg _ (by decide +kernel)) fun j hj => by
    have c : j = 0 ∨ j = 1 ∨ j = 2 ∨ j = 3 ∨ j = 4 ∨ j = 5 := by omega
    rcases c with rfl | rfl | rfl | rfl | rfl | rfl
    · exact hg (Cond.eq (.elem (.static "RuleCrypts" "FIRST_NUMBER" "[I") (.int 0)) (.int 3)) (by decide +kernel)
    · exact hg (Cond.eq (.elem (.static "RuleCrypts" "FIRST_NUMBER" "[I") (.int 1)) (.int 4)) (by decide +kernel)
    · exact hg (Cond.eq (.elem (.static "RuleCrypts" "FIRST_NUMBER" "[I") (.int 2)) (.int 3)) (by decide +kernel)
    · exact hg (Cond.eq (.elem (.static "RuleCrypts" "FIRST_NUMBER" "[I") (.int 3)) (.int 3)) (by decide +kernel)
    · exact hg (Cond.eq (.elem (.static "RuleCrypts" "FIRST_NUMBER" "[I") (.int 4)) (.int 10)) (by decide +kernel)
    · exact hg (Cond.eq (.elem (.static "RuleCrypts" "FIRST_NUMBER" "[I") (.int 5)) (.int 1)) (by decide +kernel)
theorem ws_LEAST_NUMBER {b : Nat} {s : State} (hg : ∀ w ∈ flatC (Jvm.Cond.and given_1 narrow_1), w.before #[Value.ref b] s = true) : ∃ a, (Term.static "RuleCrypts" "LEAST_NUMBER" "[I").eval #[Value.ref b] s none [] s = some (.ref a) ∧ va_X a 6 ac_tb1 s s.heap ∧ a < s.heap.size :=
  ws_const (t := .static "RuleCrypts" "LEAST_NUMBER" "[I") (v := ac_tb1) (hg _ (by decide +kernel)) (hg _ (by decide +kernel)) fun j hj => by
    have c : j = 0 ∨ j = 1 ∨ j = 2 ∨ j = 3 ∨ j = 4 ∨ j = 5 := by omega
    rcases c with rfl | rfl | rfl | rfl | rfl | rfl
    · exact hg (Cond.eq (.elem (.static "RuleCrypts" "LEAST_NUMBER" "[I") (.int 0)) (.int 0)) (by decide +kernel)
    · exact hg (Cond.eq (.elem (.static "RuleCrypts" "LEAST_NUMBER" "[I") (.int 1)) (.int 0)) (by decide +kernel)
    · exact hg (Cond.eq (.elem (.static "RuleCrypts" "LEAST_NUMBER" "[I") (.int 2)) (.int 1)) (by decide +kernel)
    · exact hg (Cond.eq (.elem (.static "RuleCrypts" "LEAST_NUMBER" "[I") (.int 3)) (.int 0)) (by decide +kernel)
    · exact hg (Cond.eq (.elem (.static "RuleCrypts" "LEAST_NUMBER" "[I") (.int 4)) (.int 1)) (by decide +kernel)
    · exact hg (Cond.eq (.elem (.static "RuleCrypts" "LEAST_NUMBER" "[I") (.int 5)) (.int 0)) (by decide +kernel)
theorem ws_MOST_NUMBER {b : Nat} {s : State} (hg : ∀ w ∈ flatC (Jvm.Cond.and given_1 narrow_1), w.before #[Value.ref b] s = true) : ∃ a, (Term.static "RuleCrypts" "MOST_NUMBER" "[I").eval #[Value.ref b] s none [] s = some (.ref a) ∧ va_X a 6 ac_tb2 s s.heap ∧ a < s.heap.size :=
  ws_const (t := .static "RuleCrypts" "MOST_NUMBER" "[I") (v := ac_tb2) (hg _ (by decide +kernel)) (hg _ (by decide +kernel)) fun j hj => by
    have c : j = 0 ∨ j = 1 ∨ j = 2 ∨ j = 3 ∨ j = 4 ∨ j = 5 := by omega
    rcases c with rfl | rfl | rfl | rfl | rfl | rfl
    · exact hg (Cond.eq (.elem (.static "RuleCrypts" "MOST_NUMBER" "[I") (.int 0)) (.int 20)) (by decide +kernel)
    · exact hg (Cond.eq (.elem (.static "RuleCrypts" "MOST_NUMBER" "[I") (.int 1)) (.int 20)) (by decide +kernel)
    · exact hg (Cond.eq (.elem (.static "RuleCrypts" "MOST_NUMBER" "[I") (.int 2)) (.int 9)) (by decide +kernel)
    · exact hg (Cond.eq (.elem (.static "RuleCrypts" "MOST_NUMBER" "[I") (.int 3)) (.int 20)) (by decide +kernel)
    · exact hg (Cond.eq (.elem (.static "RuleCrypts" "MOST_NUMBER" "[I") (.int 4)) (.int 50)) (by decide +kernel)
    · exact hg (Cond.eq (.elem (.static "RuleCrypts" "MOST_NUMBER" "[I") (.int 5)) (.int 9)) (by decide +kernel)
/-- what an int cell holds -/
def ws_sv (H : Heap) (a j : Nat) : Int := match H[a]? with
  | some c => (match c.slots[j]? with | some (.int x) => x.toInt | _ => 0)
  | none => 0
def ws_sz (H : Heap) (a : Nat) : Int := match H[a]? with
  | some c => c.slots.size
  | none => 0
/-- the memory at the start: the constant rows and the script -/
def ws_h (H : Heap) (t0 t1 t2 b : Nat) : ac_H := fun k a j => if a = (t0 : Int) + 1 ∨ a = (t1 : Int) + 1 ∨ a = (t2 : Int) + 1 ∨ a = (b : Int) + 1 then (if k = 0 ∧ j = 0 then 18 else if k = 1 ∧ j = 0 then ws_sz H (a - 1).toNat else if k = 10 then ws_sv H (a - 1).toNat j.toNat else 0) else 0
theorem ws_q {H : Heap} {t0 t1 t2 b q L : Nat} {xs : Nat → Int32} {s : State} (hq : q = t0 ∨ q = t1 ∨ q = t2 ∨ q = b) (hX : va_X q L xs s H) : ws_h H t0 t1 t2 b 0 ((q : Int) + 1) 0 = 18 ∧ ws_h H t0 t1 t2 b 1 ((q : Int) + 1) 0 = L ∧ ∀ j : Nat, j < L → ws_h H t0 t1 t2 b 10 ((q : Int) + 1) j = (xs j).toInt := by
  obtain ⟨scr, h1, h2, h3, h4, h5⟩ := hX
  have c : (q : Int) + 1 = (t0 : Int) + 1 ∨ (q : Int) + 1 = (t1 : Int) + 1 ∨ (q : Int) + 1 = (t2 : Int) + 1 ∨ (q : Int) + 1 = (b : Int) + 1 := by omega
  have e : ((q : Int) + 1 - 1).toNat = q := by omega
  unfold ws_h
  refine ⟨?_, ?_, fun j hj => ?_⟩
  · rw [if_pos c, if_pos ⟨rfl, rfl⟩]
  · rw [if_pos c, if_neg (show ¬ ((1 : Nat) = 0 ∧ (0 : Int) = 0) by decide), if_pos ⟨rfl, rfl⟩, e]
    unfold ws_sz
    rw [h1]
    show ((scr.slots.size : Nat) : Int) = L
    rw [h4]
  · rw [if_pos c, if_neg (show ¬ ((10 : Nat) = 0 ∧ (j : Int) = 0) from fun w => absurd w.1 (by decide)), if_neg (show ¬ ((10 : Nat) = 1 ∧ (j : Int) = 0) from fun w => absurd w.1 (by decide)), if_pos rfl, e, Int.toNat_natCast]
    unfold ws_sv
    rw [h1]
    simp only [h5 j hj]
theorem ws_0 {H : Heap} {t0 t1 t2 b : Nat} {a : Int} : ws_h H t0 t1 t2 b 0 a 0 = 0 ∨ (ws_h H t0 t1 t2 b 0 a 0 = 18 ∧ (a = (t0 : Int) + 1 ∨ a = (t1 : Int) + 1 ∨ a = (t2 : Int) + 1 ∨ a = (b : Int) + 1)) := by
  unfold ws_h
  by_cases c : a = (t0 : Int) + 1 ∨ a = (t1 : Int) + 1 ∨ a = (t2 : Int) + 1 ∨ a = (b : Int) + 1
  · rw [if_pos c, if_pos ⟨rfl, rfl⟩]; exact Or.inr ⟨rfl, c⟩
  · rw [if_neg c]; exact Or.inl rfl
theorem ws_R {s : State} {dd : va_G} {aC : Nat → ClassId} {t0 t1 t2 b L : Nat} {xs : Nat → Int32} (x0 : va_X t0 6 ac_tb0 s s.heap) (x1 : va_X t1 6 ac_tb1 s s.heap) (x2 : va_X t2 6 ac_tb2 s s.heap) (x3 : va_X b L xs s s.heap) (z0 : t0 < s.heap.size) (z1 : t1 < s.heap.size) (z2 : t2 < s.heap.size) (z3 : b < s.heap.size) (hL : L ≤ 260) :
    ac_R (s.heap, dd, aC, [(t0, 6, ac_tb0), (t1, 6, ac_tb1), (t2, 6, ac_tb2), (b, L, xs)]) (ws_h s.heap t0 t1 t2 b) s.heap := by
  refine ⟨⟨Nat.le_refl _, fun _ _ => rfl⟩, fun a ha k j => ?_, fun a a0 a1 => ?_, fun ci r a _ e => ?_, fun t a h1 h2 e => ?_, fun a e => ?_, fun q hq => ?_⟩
  · unfold ws_h
    rw [if_neg (by omega)]
  · rcases ws_0 (H := s.heap) (t0 := t0) (t1 := t1) (t2 := t2) (b := b) (a := a) with q | ⟨q, -⟩
    · exact absurd q a0
    · exact absurd q a1
  · rcases ws_0 (H := s.heap) (t0 := t0) (t1 := t1) (t2 := t2) (b := b) (a := a) with q | ⟨q, -⟩ <;> omega
  · rcases ws_0 (H := s.heap) (t0 := t0) (t1 := t1) (t2 := t2) (b := b) (a := a) with q | ⟨q, -⟩ <;> omega
  · rcases ws_0 (H := s.heap) (t0 := t0) (t1 := t1) (t2 := t2) (b := b) (a := a) with q | ⟨-, q⟩
    · rw [q] at e; exact absurd e (by decide)
    · rcases q with q | q | q | q
      · exact ⟨_, List.mem_cons_self, q⟩
      · exact ⟨_, List.mem_cons_of_mem _ List.mem_cons_self, q⟩
      · exact ⟨_, List.mem_cons_of_mem _ (List.mem_cons_of_mem _ List.mem_cons_self), q⟩
      · exact ⟨_, List.mem_cons_of_mem _ (List.mem_cons_of_mem _ (List.mem_cons_of_mem _ List.mem_cons_self)), q⟩
  · simp only [List.mem_cons, List.not_mem_nil, or_false] at hq
    rcases hq with rfl | rfl | rfl | rfl
    · exact ⟨z0, by show 6 < 2147483648; omega, ws_q (Or.inl rfl) x0⟩
    · exact ⟨z1, by show 6 < 2147483648; omega, ws_q (Or.inr (Or.inl rfl)) x1⟩
    · exact ⟨z2, by show 6 < 2147483648; omega, ws_q (Or.inr (Or.inr (Or.inl rfl))) x2⟩
    · exact ⟨z3, by show L < 2147483648; omega, ws_q (Or.inr (Or.inr (Or.inr rfl))) x3⟩
set_option maxHeartbeats 4000000 in
theorem ws_K {l : Launch} {s : State} {b L : Nat} {xs : Nat → Int32} (hflags : l.flags = flags0) (hts : ∀ w ∈ lw_tbl, w.before #[Value.ref b] s = true) (hX : va_X b L xs s s.heap) (hbl : b < s.heap.size) (hgv : (Jvm.Cond.and given_1 narrow_1).before #[Value.ref b] s = true) :
    ∃ (dd : va_G) (aC : Nat → ClassId) (t0 t1 t2 : Nat), (va_X t0 6 ac_tb0 s s.heap ∧ va_X t1 6 ac_tb1 s s.heap ∧ va_X t2 6 ac_tb2 s s.heap ∧ t0 < s.heap.size ∧ t1 < s.heap.size ∧ t2 < s.heap.size) ∧ ac_K (s.heap, dd, aC, [(t0, 6, ac_tb0), (t1, 6, ac_tb1), (t2, 6, ac_tb2), (b, L, xs)]) l s := by
  have hg := flat_of_before _ hgv
  have hts9 : ∀ w ∈ ac_tbl, w.before #[Value.ref b] s = true := fun w hw => hts w (ws_in hw)
  have hA : ∀ a : Nat, a < s.heap.size → ¬ (fun q : Nat => s.heap.size ≤ q) a := fun a h => Nat.not_le.mpr h
  have cls : ∀ k : Nat, ∃ (c : ClassId) (iS : Nat → Nat), ∀ q : vw_C, vwCl[k]? = some q → u_Kn s q.1 q.2.1 q.2.2 c iS := by
    intro k
    match k with
    | 0 => exact (u_known (C := RX0) (T := TX0) (N := 3) (n := 3) hts9 (ac_uws (ci := 0) rfl) (hts9 (.instantiable RX0 3) (ac_inT 307 (by decide +kernel)))).imp fun c h => h.imp fun iS h q hq => by cases hq; exact h
    | 1 => exact (u_known (C := RX1) (T := TX1) (N := 1) (n := 1) hts9 (ac_uws (ci := 1) rfl) (hts9 (.instantiable RX1 1) (ac_inT 458 (by decide +kernel)))).imp fun c h => h.imp fun iS h q hq => by cases hq; exact h
    | 2 => exact (u_known (C := RX2) (T := TX2) (N := 4) (n := 4) hts9 (ac_uws (ci := 2) rfl) (hts9 (.instantiable RX2 4) (ac_inT 424 (by decide +kernel)))).imp fun c h => h.imp fun iS h q hq => by cases hq; exact h
    | 3 => exact (u_known (C := RX3) (T := TX3) (N := 7) (n := 7) hts9 (ac_uws (ci := 3) rfl) (hts9 (.instantiable RX3 7) (ac_inT 467 (by decide +kernel)))).imp fun c h => h.imp fun iS h q hq => by cases hq; exact h
    | 4 => exact (u_known (C := RX4) (T := TX4) (N := 3) (n := 3) hts9 (ac_uws (ci := 4) rfl) (hts9 (.instantiable RX4 3) (ac_inT 164 (by decide +kernel)))).imp fun c h => h.imp fun iS h q hq => by cases hq; exact h
    | 5 => exact (u_known (C := RX5) (T := TX5) (N := 5) (n := 5) hts9 (ac_uws (ci := 5) rfl) (hts9 (.instantiable RX5 5) (ac_inT 28 (by decide +kernel)))).imp fun c h => h.imp fun iS h q hq => by cases hq; exact h
    | 6 => exact (u_known (C := RX6) (T := TX6) (N := 9) (n := 9) hts9 (ac_uws (ci := 6) rfl) (hts9 (.instantiable RX6 9) (ac_inT 59 (by decide +kernel)))).imp fun c h => h.imp fun iS h q hq => by cases hq; exact h
    | 7 => exact (u_known (C := RX7) (T := TX7) (N := 6) (n := 6) hts9 (ac_uws (ci := 7) rfl) (hts9 (.instantiable RX7 6) (ac_inT 565 (by decide +kernel)))).imp fun c h => h.imp fun iS h q hq => by cases hq; exact h
    | 8 => exact (u_known (C := RX8) (T := TX8) (N := 11) (n := 11) hts9 (ac_uws (ci := 8) rfl) (hts9 (.instantiable RX8 11) (ac_inT 20 (by decide +kernel)))).imp fun c h => h.imp fun iS h q hq => by cases hq; exact h
    | k + 9 => exact ⟨0, fun _ => 0, fun q hq => by simp at hq⟩
  have ars : ∀ t : Nat, ∃ c : ClassId, 10 ≤ t → t ≤ 17 → ArrOfT s c (ac_at t) ∧ va_RA s c (ac_at t) := by
    intro t
    by_cases h : 10 ≤ t ∧ t ≤ 17
    · have c : t = 10 ∨ t = 11 ∨ t = 12 ∨ t = 13 ∨ t = 14 ∨ t = 15 ∨ t = 16 ∨ t = 17 := by omega
      rcases c with rfl | rfl | rfl | rfl | rfl | rfl | rfl | rfl
      · exact (ws_arr1 (hts _ (ws_in (ac_inT 53 (by decide +kernel)))) (fun C q => by cases q)).imp fun c h _ _ => h
      · exact (ws_arr1 (hts _ (ws_in (ac_inT 53 (by decide +kernel)))) (fun C q => by cases q)).imp fun c h _ _ => h
      · exact (ws_arr1 (hts _ (ws_in (ac_inT 53 (by decide +kernel)))) (fun C q => by cases q)).imp fun c h _ _ => h
      · exact (ws_arr2 (hts _ (List.mem_append_right _ (List.mem_of_getElem? (i := 170) (by decide +kernel))))).imp fun c h _ _ => h
      · exact (ws_arr2 (hts _ (List.mem_append_right _ (List.mem_of_getElem? (i := 55) (by decide +kernel))))).imp fun c h _ _ => h
      · exact (ws_arr2 (hts _ (List.mem_append_right _ (List.mem_of_getElem? (i := 437) (by decide +kernel))))).imp fun c h _ _ => h
      · exact (ws_arr2 (hts _ (List.mem_append_right _ (List.mem_of_getElem? (i := 34) (by decide +kernel))))).imp fun c h _ _ => h
      · exact (ws_arr2 (hts _ (List.mem_append_right _ (List.mem_of_getElem? (i := 57) (by decide +kernel))))).imp fun c h _ _ => h
    · exact ⟨0, fun a b => absurd ⟨a, b⟩ h⟩
  obtain ⟨t0, v0, x0, z0⟩ := ws_FIRST_NUMBER hg
  obtain ⟨t1, v1, x1, z1⟩ := ws_LEAST_NUMBER hg
  obtain ⟨t2, v2, x2, z2⟩ := ws_MOST_NUMBER hg
  refine ⟨(fun k => Classical.choose (cls k), fun k => Classical.choose (Classical.choose_spec (cls k))), fun t => Classical.choose (ars t), t0, t1, t2, ⟨x0, x1, x2, z0, z1, z2⟩, ⟨?_, fun C hC D hD hne => ?_⟩, ⟨fun k q hq => Classical.choose_spec (Classical.choose_spec (cls k)) q hq, fun k q hq => ?_⟩, ws_nest hts, fun o k tx h => ws_str (hts _ (List.mem_append_right _ h)), fun C h => va_AO.of (hts _ (List.mem_append_right _ h)), fun q hq => ?_, ⟨t0, t1, t2, b, L, xs, rfl, va_Zof (hts _ (List.mem_append_right _ (List.mem_of_getElem? (i := 395) (by decide +kernel)))) (hts _ (ws_in (ac_inT 1 (by decide +kernel)))) v0 hA, va_Zof (hts _ (List.mem_append_right _ (List.mem_of_getElem? (i := 284) (by decide +kernel)))) (hts _ (ws_in (ac_inT 1 (by decide +kernel)))) v1 hA, va_Zof (hts _ (List.mem_append_right _ (List.mem_of_getElem? (i := 286) (by decide +kernel)))) (hts _ (ws_in (ac_inT 1 (by decide +kernel)))) v2 hA⟩, vx_Zqof (hts _ (List.mem_append_right _ (List.mem_of_getElem? (i := 210) (by decide +kernel)))) (hts _ (ws_in (ac_inT 5 (by decide +kernel)))) (hg _ (by decide +kernel)) hA, vx_Zqof (hts _ (List.mem_append_right _ (List.mem_of_getElem? (i := 212) (by decide +kernel)))) (hts _ (ws_in (ac_inT 5 (by decide +kernel)))) (hg _ (by decide +kernel)) hA⟩
  · unfold Launch.stackTraces
    rw [hflags]
    decide +kernel
  · simp only [ac_ex, List.mem_cons, List.not_mem_nil, or_false] at hC hD
    rcases hC with rfl | rfl | rfl <;> rcases hD with rfl | rfl | rfl <;> first | exact absurd rfl hne | exact va_Nc.of (hg _ (by decide +kernel))
  · have sp := fun t h1 h2 => Classical.choose_spec (ars t) h1 h2
    match k, hq with
    | 0, hq => cases hq; exact sp 10 (by decide) (by decide)
    | 1, hq => cases hq; exact sp 11 (by decide) (by decide)
    | 2, hq => cases hq; exact sp 12 (by decide) (by decide)
    | 3, hq => cases hq; exact sp 13 (by decide) (by decide)
    | 4, hq => cases hq; exact sp 14 (by decide) (by decide)
    | 5, hq => cases hq; exact sp 15 (by decide) (by decide)
    | 6, hq => cases hq; exact sp 16 (by decide) (by decide)
    | 7, hq => cases hq; exact sp 17 (by decide) (by decide)
    | k + 8, hq => simp [ac_tys] at hq
  · simp only [List.mem_cons, List.not_mem_nil, or_false] at hq
    rcases hq with rfl | rfl | rfl | rfl
    · exact x0
    · exact x1
    · exact x2
    · exact hX
def ws_QQ (G : ac_G) : List Frame → Array Value → State → State → Prop := fun below args s t => ((∃ b : Nat, args = #[Value.ref b]) ∧ s.heap.size = G.1.size) → lw_Z below args s t
theorem ws_LR {G : ac_G} {l : Launch} (pc : Nat) (d : decode cL_law pc = .ok (.ireturn, 1)) : ac_Snd G l (ac_rm 12 458 600104 7301314) mL_law (ws_QQ G) pc lawLR := by
  intro p e s m args below meth c C L S h k n hv H locs ls hR hS hl hs
  obtain ⟨rfl, hk, hn⟩ := hv
  by_cases hc : (∃ b : Nat, args = #[Value.ref b]) ∧ s.heap.size = G.1.size
  · obtain ⟨⟨b, rfl⟩, hz⟩ := hc
    have w : W p l e room_1 s m #[Value.ref b] below meth c H locs k n (lw_Z below #[Value.ref b] s) (F0 m pc ls [.int 1]) := by
      refine va_forget (fun q hq => by have := hS.2.2 q hq; rw [hz]; exact this) ?_
      refine W.widen (k := 600104) (n := 7301314) hk hn ?_
      exact lw_ret C.1 C.2.1 C.2.2.2.2.2.2.2.1 C.2.2.2.2.2.2.1 d
    intro T hT X
    obtain ⟨t, a, b⟩ := w T hT X
    exact ⟨t, a, fun _ => b⟩
  · intro T hT X
    exact ⟨_, Steps.refl _, fun q => absurd q hc⟩
set_option maxHeartbeats 4000000 in
theorem whole_start {p : Program} {e : Env} {s : State} {m : MethodId} {below : List Frame} {meth : Method} {c : Code} (l : Launch) (hflags : l.flags = flags0) {b L : Nat} {xs : Nat → Int32} (hL : L ≤ 260) (C0 : lw_At p s m meth c b L xs) (hnm : meth.name = "law") (htb : c.exceptionTable.toList = tableOf []) : W p l e room_1 s m #[Value.ref b] below meth c s.heap [] 0 0 (lw_Z below #[Value.ref b] s) (entryFrame m ([Value.ref b] : List Value).toArray 7) := by
  obtain ⟨hx, hb, hr, hml, hown, hts, hX, hbl, hlocks, hgv⟩ := C0
  obtain ⟨dd, aC, t0, t1, t2, ⟨x0, x1, x2, z0, z1, z2⟩, hK⟩ := ws_K hflags hts hX hbl hgv
  have hR := ws_R (dd := dd) (aC := aC) x0 x1 x2 hX z0 z1 z2 hbl hL
  generalize hG : ((s.heap, dd, aC, [(t0, 6, ac_tb0), (t1, 6, ac_tb1), (t2, 6, ac_tb2), (b, L, xs)]) : ac_G) = G at hK hR
  have g1 : G.1 = s.heap := by rw [← hG]
  have C : ac_Cx G l mL_law p s m #[Value.ref b] meth c := ⟨hx, hb, hml, hown, fun w hw => hts w (ws_in hw), hK, hlocks, hr, hnm, htb, by rw [g1]; exact Nat.le_refl _⟩
  obtain ⟨w1, w2, w3⟩ := ws_q (H := s.heap) (t0 := t0) (t1 := t1) (t2 := t2) (Or.inr (Or.inr (Or.inr rfl))) hX
  have hI : ivLaw ((b : Int) + 1) L (fun j => (xs j.toNat).toInt) 0 3000 [some (.inr (.inl ((b : Int) + 1))), none, none, none, none, none, none] [] (ws_h s.heap t0 t1 t2 b) 0 0 := by
    refine ⟨rfl, ⟨w1, w2, fun j j0 j1 => ?_⟩, rfl, rfl, rfl, rfl⟩
    have := w3 j.toNat (by omega)
    rw [Int.toNat_of_nonneg j0] at this
    exact this
  have sn := law_snd (G := G) (l := l) (QQ := ws_QQ G) (fun pc d => ws_LR pc d) (B := (b : Int) + 1) (Ln := L) (f := fun j => (xs j.toNat).toInt) (by omega) 3000 0
  have er : ac_v (.inr (.inl ((b : Int) + 1))) = Value.ref b := by
    show ac_rf ((b : Int) + 1) = _
    have e9 : ((b : Int) + 1 - 1).toNat = b := by omega
    rw [ac_rfr (by omega), e9]
  have lr := ac_ent_lr (nL := 7) (As := [.inr (.inl ((b : Int) + 1))]) (fun w hw x e => by simp at hw; rw [hw] at e; cases e) (fun w hw => by simp at hw; rw [hw]; show (0 : Int) ≤ (b : Int) + 1; omega) (by simp)
  have key := sn p e s m #[Value.ref b] below meth c C _ _ _ _ _ hI s.heap [] _ hR va_S.rf lr (fun v h => by cases h)
  rw [lg_entry_eq]
  simp only [List.map_cons, List.map_nil, er] at key
  intro T hT X
  obtain ⟨t, a, b9⟩ := key T hT X
  exact ⟨t, a, b9 ⟨⟨b, rfl⟩, by rw [g1]⟩⟩
set_option maxHeartbeats 4000000 in
theorem lw_walk (l : Launch) (hflags : l.flags = flags0) (b : Addr) (xs : List Int32) : MetFree l x (headSpec (Jvm.Cond.code x code maxLocals ret :: tables_1) room_1) (lw_P b xs) (fun _ _ _ _ _ => True) lw_Q := by
  refine MetFree.of_bodyS (code := code) (maxLocals := maxLocals) (ret := ret) (by decide) ?_ ?_
  · intro args s m h hn
    obtain ⟨meth, c, h1, h2, h3, h4, h5, h6, -, -⟩ := Cond.code_spec hn (atoms_spec (ws := Jvm.Cond.code x code maxLocals ret :: tables_1) h _ List.mem_cons_self)
    exact ⟨meth, c, h1, h2, h3, h4, h5, h6⟩
  · intro p e s m args below meth c s₁ B hml0 hP _
    obtain ⟨rfl, hx, hbd, hgv⟩ := hP
    obtain ⟨scr, harrAt, hlist, hof, hsmall⟩ := hx
    obtain ⟨hcb, hkn, -, -⟩ := State.arrayAt?_spec harrAt
    have hown : s.vm.findClass R_law = some m.cls := findClass_of_methodNamed B.named
    have hts0 : ∀ c ∈ (Jvm.Cond.code x code maxLocals ret :: tables_1), c.before #[Value.ref b] s = true := atoms_spec (ws := Jvm.Cond.code x code maxLocals ret :: tables_1) B.pre
    have hts : ∀ w ∈ lw_tbl, w.before #[Value.ref b] s = true := k2_hts_sels lw_privs (fun w hw => hts0 w (List.mem_cons_of_mem _ hw)) lw_privs_ok
    have hml : c.maxLocals = 7 := B.maxLocals_eq (hts0 _ List.mem_cons_self)
    have X₀ : Stand p l e room_1 s m #[Value.ref b] below meth c s₁ [] 0 0 := Stand.of_body B
    have hh0 : s₁.heap = s.heap := by rw [B.state]; rfl
    have htb9 : c.exceptionTable.toList = tableOf [] := by
      obtain ⟨meth9, c9, h1, h2, -, -, -, -, h7, -⟩ := Cond.code_spec B.named (hts0 _ List.mem_cons_self)
      cases Option.some.inj (h1.symm.trans B.method)
      cases Option.some.inj (h2.symm.trans (Stand.of_body B).code)
      have h8 : c.exceptionTable = #[] := by simpa using h7
      rw [h8]; rfl
    have hsz : scr.slots.size = xs.length := by rw [← Array.length_toList, hlist, List.length_map]
    have hval : ∀ j : Nat, j < xs.length → scr.slots[j]? = some (.int (xs.getD j 0)) := fun j hj => by
      rw [← Array.getElem?_toList, hlist]
      simp [hj]
    have hbl : b < s.heap.size := (Array.getElem?_eq_some_iff.mp hcb).1
    have hX : va_X b xs.length (fun j => xs.getD j 0) s s.heap := ⟨scr, hcb, hof, hkn, hsz, hval⟩
    have K : W p l e room_1 s m #[Value.ref b] below meth c s₁.heap [] 0 0 (lw_Z below #[Value.ref b] s) (entryFrame m ([Value.ref b] : List Value).toArray 7) := by
      rw [hh0]
      exact whole_start l hflags hbd ⟨B.exec, B.bytes, B.returns, hml, hown, hts, hX, hbl, B.notSynchronized, hgv⟩ (name_of_methodNamed B.named B.method).1 htb9
    obtain ⟨t, a1, o, b1, b2, b3⟩ := K s₁ rfl X₀
    exact ⟨t, o, a1, b1, b2, b3⟩
theorem lw_pre_spec {args : Array Value} {s : State} (h : (Jvm.Cond.and given_1 narrow_1).before args s = true) (hr : rest_1_c.before args s = true) : ∃ (b : Addr) (xs : List Int32), lw_P b xs args s := by
  have hs := flat_of_before _ h
  have hq := flat_of_before _ hr
  have hc : (Cond.count 1).before args s = true := hs _ (by decide +kernel)
  have harr : (Cond.arrayOf (.arg 0) .int).before args s = true := hs _ (by decide +kernel)
  have hle : (Cond.le (.length (.arg 0)) (.int 260)).before args s = true := hs _ (by decide +kernel)
  have hlen : (Cond.isInt (.length (.arg 0))).before args s = true := hq _ (by decide +kernel)
  have hall : (Cond.all (.arg 0) (.isInt (.elem (.arg 0) (.index 0)))).before args s = true := hq _ (by decide +kernel)
  obtain ⟨b, xs, hb, hx⟩ := State.ints_of_pre rfl harr hlen hall
  have hsm : xs.length < 2 ^ 31 := hx.choose_spec.2.2.2
  have hev : (Term.length (.arg 0)).eval args s none [] s = some (.int xs.length.toInt32) := hx.length_eval hb
  have hv := Cond.le_ints hev (show (Term.int 260).eval args s none [] s = some (.int 260) from rfl)
  have hd : xs.length.toInt32 ≤ 260 := by
    simpa [Cond.before, Cond.holds, hv] using hle
  have hN : xs.length ≤ 260 := (Int32.ofNat_le_ofNat hsm (by decide)).mp (show Int32.ofNat xs.length ≤ Int32.ofNat 260 from hd)
  exact ⟨b, xs, Cond.one_arg hc (show args[0]? = some (.ref b) from hb), hx, hN, h⟩
theorem lw_comes (l : Launch) (hflags : l.flags = flags0) : Comes l x (Jvm.Cond.code x code maxLocals ret :: tables_1) room_1 (fun tb e args s => Calls_1 tb e args s ∧ rest_1 tb e args s ∧ Pre_1 tb e args s)
    (fun _ _ args s o t => lw_Q args s o t) := by
  intro p e ha hc hk s m args below hf hfit hheap happ hpre
  obtain ⟨b, xs, hP⟩ := lw_pre_spec hpre.2.2 hpre.2.1
  obtain ⟨k, o, h1, h2, h3, hQ⟩ := lw_walk l hflags b xs p e ha hc hk s m args below hf ((Spec.applies_iff_loose hf).mp happ).1 hP trivial
  exact ⟨k, o, h1, h2, h3, hQ⟩
theorem lw_frame {s t : State} {o : Outcome} {args : Array Value} (h : Framed s o t [] 600104 7301314) :
    Framed s o t (fieldLocs frame_1_writes args s ++ arrayLocs frame_1_arrays args s ++ staticLocs frame_1_statics s) 600104 7301314 := h
theorem lw_limb (L : Cond) (hL : ∀ (args : Array Value) (s t : State), L.after args s (.returned (some (.int 1))) t = true) :
    ArmFor flags0 classFile x code maxLocals ret World_1 tables_1 room_1 Calls_1 rest_1 Pre_1
      (fun tb e a s o t => postC L tb e a s o t ∧ Framed s o t (fieldLocs frame_1_writes a s ++ arrayLocs frame_1_arrays a s ++ staticLocs frame_1_statics s) 600104 7301314) := by
  intro l hflags _ _ p e ha hc hk s m args below hf hfit hheap happ hpre
  obtain ⟨k, o, h1, h2, h3, rfl, hF⟩ := lw_comes l hflags p e ha hc hk s m args below hf hfit hheap happ hpre
  exact ⟨k, _, h1, h2, h3, hL args s _, lw_frame hF⟩
theorem i_vc : Claimed_1_1 ∧ Claimed_1_2 := ⟨lw_limb limb_1_1 (fun args s t => by simp [limb_1_1, Cond.after, Cond.holds, Cond.value]), lw_limb limb_1_2 (fun args s t => Cond.after_iff.mpr (by
  first | (rw [show limb_1_2 = Cond.eq .result (.int 1) from rfl, Cond.eq_ints (x := 1) (y := 1) rfl rfl]; simp; done) | (simp [limb_1_2, Cond.value, Term.eval]; done)))⟩
