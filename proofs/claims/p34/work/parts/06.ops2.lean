section AP
variable {G : ac_G} {l : Launch} {R : Room} {M : ac_M} {QQ : List Frame → Array Value → State → State → Prop} {V V1 V2 : ac_S}
theorem ac_cv (v : ac_V) (h : ∀ x, v ≠ .inr (.inr x)) : (ac_v v).category = 1 := ac_cat1 v h
theorem s_dup (pc : Nat) (d : decode M.1 pc = .ok (.dup, 1)) (hV : ac_Snd G l R M QQ (pc + 1) V) : ac_Snd G l R M QQ pc (oDup V) := by
  intro p e s m args below meth c C L S h k n hv H locs ls hR hS hl hs
  match S, hv, hs with
  | .inl x :: S', hv, hs =>
    obtain ⟨h1, h2⟩ := List.forall_mem_cons.mp hs
    exact lv_dup C.1 C.2.1 d (ac_cv (.inl x) (fun _ q => by cases q)) (hV p e s m args below meth c C _ _ _ _ _ hv H locs ls hR hS hl (ac_cons h1 hs))
  | .inr (.inl x) :: S', hv, hs =>
    obtain ⟨h1, h2⟩ := List.forall_mem_cons.mp hs
    exact lv_dup C.1 C.2.1 d (ac_cv (.inr (.inl x)) (fun _ q => by cases q)) (hV p e s m args below meth c C _ _ _ _ _ hv H locs ls hR hS hl (ac_cons h1 hs))
theorem s_pop (pc : Nat) (d : decode M.1 pc = .ok (.pop, 1)) (hV : ac_Snd G l R M QQ (pc + 1) V) : ac_Snd G l R M QQ pc (oPop V) := by
  intro p e s m args below meth c C L S h k n hv H locs ls hR hS hl hs
  match S, hv, hs with
  | .inl x :: S', hv, hs =>
    obtain ⟨h1, h2⟩ := List.forall_mem_cons.mp hs
    exact lv_pop C.1 C.2.1 d (ac_cv (.inl x) (fun _ q => by cases q)) (hV p e s m args below meth c C _ _ _ _ _ hv H locs ls hR hS hl h2)
  | .inr (.inl x) :: S', hv, hs =>
    obtain ⟨h1, h2⟩ := List.forall_mem_cons.mp hs
    exact lv_pop C.1 C.2.1 d (ac_cv (.inr (.inl x)) (fun _ q => by cases q)) (hV p e s m args below meth c C _ _ _ _ _ hv H locs ls hR hS hl h2)
theorem s_dup_x1 (pc : Nat) (d : decode M.1 pc = .ok (.dup_x1, 1)) (hV : ac_Snd G l R M QQ (pc + 1) V) : ac_Snd G l R M QQ pc (oDupX1 V) := by
  intro p e s m args below meth c C L S h k n hv H locs ls hR hS hl hs
  match S, hv, hs with
  | .inl x :: .inr (.inl a) :: S', hv, hs =>
    obtain ⟨h1, h2⟩ := List.forall_mem_cons.mp hs
    obtain ⟨h3, h4⟩ := List.forall_mem_cons.mp h2
    exact lv_dup_x1 C.1 C.2.1 d (ac_cv (.inl x) (fun _ q => by cases q)) (ac_cv (.inr (.inl a)) (fun _ q => by cases q)) (hV p e s m args below meth c C _ _ _ _ _ hv H locs ls hR hS hl (ac_cons h1 (ac_cons h3 (ac_cons h1 h4))))
theorem s_dup2 (pc : Nat) (d : decode M.1 pc = .ok (.dup2, 1)) (hV : ac_Snd G l R M QQ (pc + 1) V) : ac_Snd G l R M QQ pc (oDup2 V) := by
  intro p e s m args below meth c C L S h k n hv H locs ls hR hS hl hs
  match S, hv, hs with
  | .inl x :: .inr (.inl a) :: S', hv, hs =>
    obtain ⟨h1, h2⟩ := List.forall_mem_cons.mp hs
    obtain ⟨h3, h4⟩ := List.forall_mem_cons.mp h2
    exact lv_dup2_11 C.1 C.2.1 d (ac_cv (.inl x) (fun _ q => by cases q)) (ac_cv (.inr (.inl a)) (fun _ q => by cases q)) (hV p e s m args below meth c C _ _ _ _ _ hv H locs ls hR hS hl (ac_cons h1 (ac_cons h3 hs)))
/-! branches -/
theorem s_goto (pc tgt : Nat) {off : Int} (d : decode M.1 pc = .ok (.goto off, 3)) (ht : (pc : Int) + off = tgt) (hV : ac_Snd G l R M QQ tgt V) : ac_Snd G l R M QQ pc V := by
  intro p e s m args below meth c C L S h k n hv H locs ls hR hS hl hs
  exact lv_goto C.1 C.2.1 d ht (hV p e s m args below meth c C _ _ _ _ _ hv H locs ls hR hS hl hs)
theorem ac_bic {P : Int → Int → Prop} {P32 : Int32 → Int32 → Prop} (pc pa pb : Nat) (hP : ∀ x y, ac_irg x → ac_irg y → (P32 (Int32.ofInt x) (Int32.ofInt y) ↔ P x y))
    (row : ∀ {p : Program} {e : Env} {R : Room} {s : State} {m : MethodId} {args : Array Value} {below : List Frame} {meth : Method} {c : Code} {H : Heap} {locs : List Loc} {k n : Nat} {Q : State → Prop} {ls : Array Slot} {rest : List Value} (x y : Int32), p.tables.exec = Jvm.exec → c.code = M.1 →
      (P32 x y → W p l e R s m args below meth c H locs k n Q (F0 m pa ls rest)) → (¬ P32 x y → W p l e R s m args below meth c H locs k n Q (F0 m pb ls rest)) → W p l e R s m args below meth c H locs k n Q (F0 m pc ls (.int y :: .int x :: rest)))
    (h1 : ac_Snd G l R M QQ pa V1) (h2 : ac_Snd G l R M QQ pb V2) : ac_Snd G l R M QQ pc (bIc P V1 V2) := by
  intro p e s m args below meth c C L S h k n hv H locs ls hR hS hl hs
  match S, hv, hs with
  | .inl y :: .inl x :: S', hv, hs =>
    obtain ⟨q1, q2⟩ := List.forall_mem_cons.mp hs
    obtain ⟨q3, q4⟩ := List.forall_mem_cons.mp q2
    exact row (Int32.ofInt x) (Int32.ofInt y) C.1 C.2.1 (fun q => h1 p e s m args below meth c C _ _ _ _ _ (hv.1 ((hP x y q3 q1).mp q)) H locs ls hR hS hl q4) (fun q => h2 p e s m args below meth c C _ _ _ _ _ (hv.2 (fun z => q ((hP x y q3 q1).mpr z))) H locs ls hR hS hl q4)
theorem s_icmp_eq (pc tgt : Nat) {off : Int} (d : decode M.1 pc = .ok (.if_icmp .eq off, 3)) (ht : (pc : Int) + off = tgt) (h1 : ac_Snd G l R M QQ tgt V1) (h2 : ac_Snd G l R M QQ (pc + 3) V2) : ac_Snd G l R M QQ pc (bIc (fun x y => x = y) V1 V2) :=
  ac_bic (P32 := fun x y => x = y) pc tgt (pc + 3) (fun x y a b => ac_eq a b) (fun x y hx hb k1 k2 => lv_icmp_eq hx hb d ht k1 k2) h1 h2
theorem s_icmp_ne (pc tgt : Nat) {off : Int} (d : decode M.1 pc = .ok (.if_icmp .ne off, 3)) (ht : (pc : Int) + off = tgt) (h1 : ac_Snd G l R M QQ tgt V1) (h2 : ac_Snd G l R M QQ (pc + 3) V2) : ac_Snd G l R M QQ pc (bIc (fun x y => x = y) V2 V1) :=
  ac_bic (P32 := fun x y => x = y) pc (pc + 3) tgt (fun x y a b => ac_eq a b) (fun x y hx hb k1 k2 => lv_icmp_ne hx hb d ht k2 k1) h2 h1
theorem s_icmp_lt (pc tgt : Nat) {off : Int} (d : decode M.1 pc = .ok (.if_icmp .lt off, 3)) (ht : (pc : Int) + off = tgt) (h1 : ac_Snd G l R M QQ tgt V1) (h2 : ac_Snd G l R M QQ (pc + 3) V2) : ac_Snd G l R M QQ pc (bIc (fun x y => x < y) V1 V2) :=
  ac_bic (P32 := fun x y => x < y) pc tgt (pc + 3) (fun x y a b => ac_lt a b) (fun x y hx hb k1 k2 => lv_icmp_lt hx hb d ht k1 k2) h1 h2
theorem s_icmp_ge (pc tgt : Nat) {off : Int} (d : decode M.1 pc = .ok (.if_icmp .ge off, 3)) (ht : (pc : Int) + off = tgt) (h1 : ac_Snd G l R M QQ tgt V1) (h2 : ac_Snd G l R M QQ (pc + 3) V2) : ac_Snd G l R M QQ pc (bIc (fun x y => y ≤ x) V1 V2) :=
  ac_bic (P32 := fun x y => y ≤ x) pc tgt (pc + 3) (fun x y a b => ac_le b a) (fun x y hx hb k1 k2 => lv_icmp_ge hx hb d ht k1 k2) h1 h2
theorem s_icmp_gt (pc tgt : Nat) {off : Int} (d : decode M.1 pc = .ok (.if_icmp .gt off, 3)) (ht : (pc : Int) + off = tgt) (h1 : ac_Snd G l R M QQ tgt V1) (h2 : ac_Snd G l R M QQ (pc + 3) V2) : ac_Snd G l R M QQ pc (bIc (fun x y => y < x) V1 V2) :=
  ac_bic (P32 := fun x y => y < x) pc tgt (pc + 3) (fun x y a b => ac_lt b a) (fun x y hx hb k1 k2 => lv_icmp_gt hx hb d ht k1 k2) h1 h2
theorem s_icmp_le (pc tgt : Nat) {off : Int} (d : decode M.1 pc = .ok (.if_icmp .le off, 3)) (ht : (pc : Int) + off = tgt) (h1 : ac_Snd G l R M QQ tgt V1) (h2 : ac_Snd G l R M QQ (pc + 3) V2) : ac_Snd G l R M QQ pc (bIc (fun x y => x ≤ y) V1 V2) :=
  ac_bic (P32 := fun x y => x ≤ y) pc tgt (pc + 3) (fun x y a b => ac_le a b) (fun x y hx hb k1 k2 => lv_icmp_le hx hb d ht k1 k2) h1 h2
theorem ac_bi0 {P : Int → Prop} {P32 : Int32 → Prop} (pc pa pb : Nat) (hP : ∀ x, ac_irg x → (P32 (Int32.ofInt x) ↔ P x))
    (row : ∀ {p : Program} {e : Env} {R : Room} {s : State} {m : MethodId} {args : Array Value} {below : List Frame} {meth : Method} {c : Code} {H : Heap} {locs : List Loc} {k n : Nat} {Q : State → Prop} {ls : Array Slot} {rest : List Value} (x : Int32), p.tables.exec = Jvm.exec → c.code = M.1 →
      (P32 x → W p l e R s m args below meth c H locs k n Q (F0 m pa ls rest)) → (¬ P32 x → W p l e R s m args below meth c H locs k n Q (F0 m pb ls rest)) → W p l e R s m args below meth c H locs k n Q (F0 m pc ls (.int x :: rest)))
    (h1 : ac_Snd G l R M QQ pa V1) (h2 : ac_Snd G l R M QQ pb V2) : ac_Snd G l R M QQ pc (bI0 P V1 V2) := by
  intro p e s m args below meth c C L S h k n hv H locs ls hR hS hl hs
  match S, hv, hs with
  | .inl x :: S', hv, hs =>
    obtain ⟨q3, q4⟩ := List.forall_mem_cons.mp hs
    exact row (Int32.ofInt x) C.1 C.2.1 (fun q => h1 p e s m args below meth c C _ _ _ _ _ (hv.1 ((hP x q3).mp q)) H locs ls hR hS hl q4) (fun q => h2 p e s m args below meth c C _ _ _ _ _ (hv.2 (fun z => q ((hP x q3).mpr z))) H locs ls hR hS hl q4)
theorem ac_z : ac_irg 0 := ⟨by omega, by omega⟩
theorem s_if_eq (pc tgt : Nat) {off : Int} (d : decode M.1 pc = .ok (.ifCond .eq off, 3)) (ht : (pc : Int) + off = tgt) (h1 : ac_Snd G l R M QQ tgt V1) (h2 : ac_Snd G l R M QQ (pc + 3) V2) : ac_Snd G l R M QQ pc (bI0 (fun x => x = 0) V1 V2) :=
  ac_bi0 (P32 := fun x => x = 0) pc tgt (pc + 3) (fun x a => ac_eq a ac_z) (fun x hx hb k1 k2 => lv_if_eq hx hb d ht k1 k2) h1 h2
theorem s_if_ne (pc tgt : Nat) {off : Int} (d : decode M.1 pc = .ok (.ifCond .ne off, 3)) (ht : (pc : Int) + off = tgt) (h1 : ac_Snd G l R M QQ tgt V1) (h2 : ac_Snd G l R M QQ (pc + 3) V2) : ac_Snd G l R M QQ pc (bI0 (fun x => x = 0) V2 V1) :=
  ac_bi0 (P32 := fun x => x = 0) pc (pc + 3) tgt (fun x a => ac_eq a ac_z) (fun x hx hb k1 k2 => lv_if_ne hx hb d ht k2 k1) h2 h1
theorem s_if_lt (pc tgt : Nat) {off : Int} (d : decode M.1 pc = .ok (.ifCond .lt off, 3)) (ht : (pc : Int) + off = tgt) (h1 : ac_Snd G l R M QQ tgt V1) (h2 : ac_Snd G l R M QQ (pc + 3) V2) : ac_Snd G l R M QQ pc (bI0 (fun x => x < 0) V1 V2) :=
  ac_bi0 (P32 := fun x => x < 0) pc tgt (pc + 3) (fun x a => ac_lt a ac_z) (fun x hx hb k1 k2 => lv_if_lt hx hb d ht k1 k2) h1 h2
theorem s_if_ge (pc tgt : Nat) {off : Int} (d : decode M.1 pc = .ok (.ifCond .ge off, 3)) (ht : (pc : Int) + off = tgt) (h1 : ac_Snd G l R M QQ tgt V1) (h2 : ac_Snd G l R M QQ (pc + 3) V2) : ac_Snd G l R M QQ pc (bI0 (fun x => 0 ≤ x) V1 V2) :=
  ac_bi0 (P32 := fun x => 0 ≤ x) pc tgt (pc + 3) (fun x a => ac_le ac_z a) (fun x hx hb k1 k2 => lv_if_ge hx hb d ht k1 k2) h1 h2
theorem s_if_gt (pc tgt : Nat) {off : Int} (d : decode M.1 pc = .ok (.ifCond .gt off, 3)) (ht : (pc : Int) + off = tgt) (h1 : ac_Snd G l R M QQ tgt V1) (h2 : ac_Snd G l R M QQ (pc + 3) V2) : ac_Snd G l R M QQ pc (bI0 (fun x => 0 < x) V1 V2) :=
  ac_bi0 (P32 := fun x => 0 < x) pc tgt (pc + 3) (fun x a => ac_lt ac_z a) (fun x hx hb k1 k2 => lv_if_gt hx hb d ht k1 k2) h1 h2
theorem s_if_le (pc tgt : Nat) {off : Int} (d : decode M.1 pc = .ok (.ifCond .le off, 3)) (ht : (pc : Int) + off = tgt) (h1 : ac_Snd G l R M QQ tgt V1) (h2 : ac_Snd G l R M QQ (pc + 3) V2) : ac_Snd G l R M QQ pc (bI0 (fun x => x ≤ 0) V1 V2) :=
  ac_bi0 (P32 := fun x => x ≤ 0) pc tgt (pc + 3) (fun x a => ac_le a ac_z) (fun x hx hb k1 k2 => lv_if_le hx hb d ht k1 k2) h1 h2
theorem s_ifnull (pc tgt : Nat) {off : Int} (d : decode M.1 pc = .ok (.ifnull off, 3)) (ht : (pc : Int) + off = tgt) (h1 : ac_Snd G l R M QQ tgt V1) (h2 : ac_Snd G l R M QQ (pc + 3) V2) : ac_Snd G l R M QQ pc (bNul V1 V2) := by
  intro p e s m args below meth c C L S h k n hv H locs ls hR hS hl hs
  match S, hv, hs with
  | .inr (.inl a) :: S', hv, hs =>
    obtain ⟨q3, q4⟩ := List.forall_mem_cons.mp hs
    have q3 : 0 ≤ a := q3
    by_cases ha : a = 0
    · subst ha
      exact lv_ifnullN C.1 C.2.1 d ht (h1 p e s m args below meth c C _ _ _ _ _ (hv.1 rfl) H locs ls hR hS hl q4)
    · have e1 : ac_v (.inr (.inl a)) = .ref (a - 1).toNat := if_neg (by omega)
      rw [List.map_cons, e1]
      exact lv_ifnull C.1 C.2.1 d (h2 p e s m args below meth c C _ _ _ _ _ (hv.2 ha) H locs ls hR hS hl q4)
theorem s_ifnonnull (pc tgt : Nat) {off : Int} (d : decode M.1 pc = .ok (.ifnonnull off, 3)) (ht : (pc : Int) + off = tgt) (h1 : ac_Snd G l R M QQ (pc + 3) V1) (h2 : ac_Snd G l R M QQ tgt V2) : ac_Snd G l R M QQ pc (bNul V1 V2) := by
  intro p e s m args below meth c C L S h k n hv H locs ls hR hS hl hs
  match S, hv, hs with
  | .inr (.inl a) :: S', hv, hs =>
    obtain ⟨q3, q4⟩ := List.forall_mem_cons.mp hs
    have q3 : 0 ≤ a := q3
    by_cases ha : a = 0
    · subst ha
      exact lv_ifnonnullN C.1 C.2.1 d (h1 p e s m args below meth c C _ _ _ _ _ (hv.1 rfl) H locs ls hR hS hl q4)
    · have e1 : ac_v (.inr (.inl a)) = .ref (a - 1).toNat := if_neg (by omega)
      rw [List.map_cons, e1]
      exact lv_ifnonnull C.1 C.2.1 d ht (h2 p e s m args below meth c C _ _ _ _ _ (hv.2 ha) H locs ls hR hS hl q4)
/-! a weaker predicate, or one that the loop's induction gives -/
theorem ac_Snd.mono {pc : Nat} (h2 : ac_Snd G l R M QQ pc V2) (h : ∀ L S h k n, V1 L S h k n → V2 L S h k n) : ac_Snd G l R M QQ pc V1 :=
  fun p e s m args below meth c C L S hh k n hv => h2 p e s m args below meth c C L S hh k n (h L S hh k n hv)
theorem ac_loops {pcs : Nat → Nat} {I : Nat → Nat → ac_S} {B : Nat → (Nat → ac_S) → ac_S} (hB : ∀ (j : Nat) (J : Nat → ac_S), (∀ i, ac_Snd G l R M QQ (pcs i) (J i)) → ac_Snd G l R M QQ (pcs j) (B j J))
    (hs : ∀ (j m : Nat) (L : ac_L) (S : List ac_V) (h : ac_H) (k n : Nat), I j m L S h k n → B j (fun i L S h k n => ∃ m', m' < m ∧ I i m' L S h k n) L S h k n) : ∀ (m j : Nat), ac_Snd G l R M QQ (pcs j) (I j m) := by
  intro m
  induction m using Nat.strongRecOn with
  | _ m ih =>
    intro j
    refine (hB j (fun i L S h k n => ∃ m', m' < m ∧ I i m' L S h k n) fun i => ?_).mono (hs j m)
    intro p e s mm args below meth c C L S h k n hv
    obtain ⟨m', h1, h2⟩ := hv
    exact ih m' h1 i p e s mm args below meth c C L S h k n h2
end AP
