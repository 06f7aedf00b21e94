/-! ===== contracts ===== -/
abbrev ac_Sp : Type := (List ac_V → ac_H → Prop) × (List ac_V → ac_H → Option ac_V → ac_H → Prop) × (List ac_V → ac_H → String → ac_H → Prop)
def ac_Pc (G : ac_G) (l : Launch) (As : List ac_V) (h : ac_H) : Array Value → State → Prop := fun v U => v = (As.map ac_v).toArray ∧ ac_K G l U ∧ ac_R G h U.heap
def ac_Qc (G : ac_G) (post : Option ac_V → ac_H → Prop) : Array Value → State → Outcome → State → Prop := fun _ st o t =>
  (∃ (r : Option ac_V) (h' : ac_H), o = .returned (r.map ac_v) ∧ (∀ v, r = some v → ac_ok v) ∧ post r h' ∧ ac_R G h' t.heap) ∧ st.heap.size ≤ t.heap.size
def ac_Xc (G : ac_G) (exc : String → ac_H → Prop) : String → State → State → Prop := fun E st t => (∃ h', exc E h' ∧ ac_R G h' t.heap) ∧ st.heap.size ≤ t.heap.size
def ac_cw (y : MethodName) (M : ac_M) : Cond := match M.2.2.2.2.2 with
  | [] => .code y M.1 M.2.1 M.2.2.2.1
  | hh => .codeWith y M.1 M.2.1 M.2.2.2.1 hh
def ac_rm (fr lo mc ms : Nat) : Room := { frames := fr, cells := mc, slots := ms, locals := lo }
def ac_Met (G : ac_G) (l : Launch) (y : MethodName) (M : ac_M) (fr lo mc ms : Nat) (sp : ac_Sp) : Prop :=
  ∀ (As : List ac_V) (h : ac_H), sp.1 As h → (∀ v ∈ As, ac_ok v) → vx_Met l y (ac_cw y M :: ac_tbl) (ac_rm fr lo mc ms) (ac_Pc G l As h) (ac_Qc G (sp.2.1 As h)) (ac_Xc G (sp.2.2 As h)) mc ms (ac_A G)
def ac_QQ (G : ac_G) (post : Option ac_V → ac_H → Prop) (exc : String → ac_H → Prop) (mc ms : Nat) : List Frame → Array Value → State → State → Prop := fun below args s => vx_MQ below (ac_Qc G post) (ac_Xc G exc) args s mc ms (ac_A G)
theorem ac_blind (G : ac_G) (l : Launch) (As : List ac_V) (h : ac_H) : FrameBlind (ac_Pc G l As h) := by
  intro a U g mk q
  obtain ⟨q1, q2, q3⟩ := q
  exact ⟨q1, q2.warm (State.WarmedH.refl U), q3⟩
/-- the locals at the entry -/
def ac_ent (nL : Nat) (As : List ac_V) : ac_L := As.map some ++ List.replicate (nL - As.length) none
theorem ac_args_in : ∀ (As : List ac_V) (i k : Nat) (v : ac_V), (∀ w ∈ As, ∀ x, w ≠ .inr (.inr x)) → As[k]? = some v → (i + k, ac_v v) ∈ lv_args i (As.map ac_v)
  | [], i, k, v, _, h => by simp at h
  | w :: As, i, 0, v, _, h => by
    simp only [List.getElem?_cons_zero] at h
    cases h
    exact List.mem_cons_self
  | w :: As, i, k + 1, v, hn, h => by
    rw [List.getElem?_cons_succ] at h
    have h1 := ac_args_in As (i + 1) k v (fun w hw => hn w (List.mem_cons_of_mem _ hw)) h
    rw [List.map_cons, lv_args, ac_cat1 w (hn w List.mem_cons_self), if_neg (by decide)]
    rw [show i + (k + 1) = i + 1 + k by omega]
    exact List.mem_cons_of_mem _ h1
theorem ac_sl_len : ∀ (As : List ac_V), (∀ w ∈ As, ∀ x, w ≠ .inr (.inr x)) → (lg_sl (As.map ac_v)).length = As.length
  | [], _ => rfl
  | w :: As, hn => by
    have h1 := ac_sl_len As (fun w hw => hn w (List.mem_cons_of_mem _ hw))
    rw [List.map_cons]
    unfold lg_sl at h1 ⊢
    rw [List.flatMap_cons, List.length_append, h1, ac_cat1 w (hn w List.mem_cons_self), if_neg (by decide)]
    simp; omega
theorem ac_ent_lr {nL : Nat} {As : List ac_V} (hn : ∀ w ∈ As, ∀ x, w ≠ .inr (.inr x)) (hok : ∀ w ∈ As, ac_ok w) (hl : As.length ≤ nL) : ac_lr nL (ac_ent nL As) ((lg_sl (As.map ac_v) ++ List.replicate (nL - (lg_sl (As.map ac_v)).length) Slot.unset).toArray) := by
  obtain ⟨h1, h2, h3⟩ := lv_entry (As.map ac_v) (n := nL) (by rw [ac_sl_len As hn]; exact hl)
  refine ⟨by simp [ac_ent]; omega, h1, h2, fun k v hk => ?_⟩
  have hk2 : As[k]? = some v := by
    unfold ac_ent at hk
    by_cases q : k < As.length
    · rw [List.getElem?_append_left (by simpa using q), List.getElem?_map] at hk
      cases e : As[k]? with
      | none => rw [e] at hk; cases hk
      | some w => rw [e] at hk; cases hk; rfl
    · rw [List.getElem?_append_right (by simp; omega), List.getElem?_replicate] at hk
      split at hk <;> cases hk
  have hm := List.mem_of_getElem? hk2
  have h4 := h3 _ (ac_args_in As 0 k v hn hk2)
  simp only [Nat.zero_add] at h4
  exact ⟨h4, hok v hm, hn v hm⟩
section AM
variable {G : ac_G} {l : Launch} {y : MethodName} {M : ac_M} {fr lo mc ms : Nat} {sp : ac_Sp}
theorem ac_met (hy : plainName y.cls = true) (ho : y.cls = M.2.2.1) (hn : y.name = M.2.2.2.2.1)
    (hpre : ∀ As h, sp.1 As h → As.length ≤ M.2.1 ∧ ∀ w ∈ As, ∀ x, w ≠ .inr (.inr x))
    (body : ∀ (As : List ac_V) (h : ac_H), sp.1 As h → ∃ V : ac_S, ac_Snd G l (ac_rm fr lo mc ms) M (ac_QQ G (sp.2.1 As h) (sp.2.2 As h) mc ms) 0 V ∧ V (ac_ent M.2.1 As) [] h 0 0) : ac_Met G l y M fr lo mc ms sp := by
  intro As h hp hok
  obtain ⟨V, hV, hv⟩ := body As h hp
  obtain ⟨hlen, hnl⟩ := hpre As h hp
  have core : ∀ p e s m args below meth c s₁, BodyLoose p l y (headSpec (ac_cw y M :: ac_tbl) (ac_rm fr lo mc ms)) M.1 M.2.1 M.2.2.2.1 e s m args below meth c s₁ → c.maxLocals = M.2.1 → c.exceptionTable.toList = tableOf M.2.2.2.2.2 → ac_Pc G l As h args s →
      W p l e (headSpec (ac_cw y M :: ac_tbl) (ac_rm fr lo mc ms)).room s m args below meth c s.heap [] 0 0 (vx_MQ below (ac_Qc G (sp.2.1 As h)) (ac_Xc G (sp.2.2 As h)) args s mc ms (ac_A G)) (entryFrame m args M.2.1) := by
    intro p e s m args below meth c s₁ B hml htb hP
    obtain ⟨rfl, hK, hR⟩ := hP
    have hts := atoms_spec (ws := ac_cw y M :: ac_tbl) B.pre
    have hown : s.vm.findClass M.2.2.1 = some m.cls := ho ▸ findClass_of_methodNamed B.named
    have hnm : meth.name = M.2.2.2.2.1 := (name_of_methodNamed B.named B.method).1.trans hn
    have C : ac_Cx G l M p s m (As.map ac_v).toArray meth c := ⟨B.exec, B.bytes, hml, hown, fun w hw => hts w (List.mem_cons_of_mem _ hw), hK, B.notSynchronized, B.returns, hnm, htb, hR.1.1⟩
    rw [lg_entry_eq]
    exact hV p e s m _ below meth c C _ _ _ _ _ hv s.heap [] _ hR va_S.rf (ac_ent_lr hnl hok hlen) (fun v h => by cases h)
  cases htb : M.2.2.2.2.2 with
  | nil =>
    refine vx_ofW (cc := M.1) (maxL := M.2.1) (ret := M.2.2.2.1) hy (ws' := ac_tbl) (by unfold ac_cw; rw [htb]) ?_
    intro p e s m args below meth c s₁ B hml ht hP
    refine core p e s m args below meth c s₁ B hml ?_ hP
    rw [htb]
    cases e : c.exceptionTable.toList with
    | nil => rfl
    | cons a r => exact (ht a (by rw [e]; exact List.mem_cons_self)).elim
  | cons a r =>
    refine vx_ofWH (cc := M.1) (maxL := M.2.1) (ret := M.2.2.2.1) (hh := M.2.2.2.2.2) hy (ws' := ac_tbl) (by unfold ac_cw; rw [htb]) ?_
    intro p e s m args below meth c s₁ B hml hP
    have hts := atoms_spec (ws := ac_cw y M :: ac_tbl) B.pre
    refine core p e s m args below meth c s₁ B hml ?_ hP
    have hcw : (Cond.codeWith y M.1 M.2.1 M.2.2.2.1 M.2.2.2.2.2).before args s = true := by
      have h1 := hts _ List.mem_cons_self
      unfold ac_cw at h1
      rw [htb] at h1
      rw [htb]
      exact h1
    exact vx_table (x := y) B hcw
end AM
/-! ===== ends ===== -/
def rtI (P : Option ac_V → ac_H → Prop) (mc ms : Nat) : ac_S := fun _ S h k n => match S with
  | [.inl x] => P (some (.inl x)) h ∧ k ≤ mc ∧ n ≤ ms
  | _ => False
def rtZ (P : Option ac_V → ac_H → Prop) (mc ms : Nat) : ac_S := fun _ S h k n => match S with
  | [.inl x] => (x = 0 ∨ x = 1) ∧ P (some (.inl x)) h ∧ k ≤ mc ∧ n ≤ ms
  | _ => False
def rtR (P : Option ac_V → ac_H → Prop) (mc ms : Nat) : ac_S := fun _ S h k n => match S with
  | [.inr (.inl a)] => P (some (.inr (.inl a))) h ∧ k ≤ mc ∧ n ≤ ms
  | _ => False
def rtV (P : Option ac_V → ac_H → Prop) (mc ms : Nat) : ac_S := fun _ S h k n => match S with
  | [] => P none h ∧ k ≤ mc ∧ n ≤ ms
  | _ => False
def thr (X : String → ac_H → Prop) (E : String) (mc ms : Nat) : ac_S := fun _ S h k n => X E h ∧ k + 1 ≤ mc ∧ n + 6 ≤ ms ∧ ac_cs S ≤ 8
section AE
variable {G : ac_G} {l : Launch} {R : Room} {M : ac_M} {post : Option ac_V → ac_H → Prop} {exc : String → ac_H → Prop} {mc ms : Nat}
theorem ac_Sf {A : Nat → Prop} {H0 H : Heap} {locs : List Loc} (hS : va_S A H0 H locs) : ∀ q ∈ locs, A q.base := hS.2.2
theorem s_iret (pc : Nat) (hr : M.2.2.2.1 = some .int) (d : decode M.1 pc = .ok (.ireturn, 1)) : ac_Snd G l R M (ac_QQ G post exc mc ms) pc (rtI post mc ms) := by
  intro p e s m args below meth c C L S h k n hv H locs ls hR hS hl hs
  match S, hv, hs with
  | [.inl x], ⟨hv, h1, h2⟩, hs =>
    refine vx_ret (W.widen h1 h2 (W.iret C.1 C.2.1 (C.2.2.2.2.2.2.2.1.trans hr) (fun t ht hW => ⟨⟨some (.inl x), h, rfl, fun v e => by cases e; exact hs _ List.mem_cons_self, hv, by rw [ht]; exact hR⟩, by rw [ht]; exact hS.1⟩) hS.2.2 d C.2.2.2.2.2.2.1))
theorem s_zret (pc : Nat) (hr : M.2.2.2.1 = some .boolean) (d : decode M.1 pc = .ok (.ireturn, 1)) : ac_Snd G l R M (ac_QQ G post exc mc ms) pc (rtZ post mc ms) := by
  intro p e s m args below meth c C L S h k n hv H locs ls hR hS hl hs
  match S, hv, hs with
  | [.inl x], ⟨hz, hv, h1, h2⟩, hs =>
    refine vx_ret (W.widen h1 h2 (W.zret C.1 C.2.1 (C.2.2.2.2.2.2.2.1.trans hr) (by rcases hz with rfl | rfl <;> rfl) (fun t ht hW => ⟨⟨some (.inl x), h, rfl, fun v e => by cases e; exact hs _ List.mem_cons_self, hv, by rw [ht]; exact hR⟩, by rw [ht]; exact hS.1⟩) hS.2.2 d C.2.2.2.2.2.2.1))
theorem s_vret (pc : Nat) (hr : M.2.2.2.1 = none) (d : decode M.1 pc = .ok (.return_, 1)) : ac_Snd G l R M (ac_QQ G post exc mc ms) pc (rtV post mc ms) := by
  intro p e s m args below meth c C L S h k n hv H locs ls hR hS hl hs
  match S, hv, hs with
  | [], ⟨hv, h1, h2⟩, hs =>
    refine vx_ret (W.widen h1 h2 (W.vret C.1 C.2.1 (C.2.2.2.2.2.2.2.1.trans hr) (fun t ht hW => ⟨⟨none, h, rfl, (fun v e => by cases e), hv, by rw [ht]; exact hR⟩, by rw [ht]; exact hS.1⟩) hS.2.2 d C.2.2.2.2.2.2.1))
theorem s_aret (pc : Nat) {rt : FieldType} (hr : M.2.2.2.1 = some rt) (hrt : (∃ n, rt = .object n) ∨ ∃ t, rt = .array t) (d : decode M.1 pc = .ok (.areturn, 1)) : ac_Snd G l R M (ac_QQ G post exc mc ms) pc (rtR post mc ms) := by
  intro p e s m args below meth c C L S h k n hv H locs ls hR hS hl hs
  match S, hv, hs with
  | [.inr (.inl a)], ⟨hv, h1, h2⟩, hs =>
    refine vx_ret (W.widen h1 h2 (W.aret C.1 C.2.1 (C.2.2.2.2.2.2.2.1.trans hr) hrt (v := ac_v (.inr (.inl a))) (by unfold ac_v ac_rf; dsimp only; split; exact Or.inl rfl; exact Or.inr ⟨_, rfl⟩) (fun t ht hW => ⟨⟨some (.inr (.inl a)), h, rfl, fun v e => by cases e; exact hs _ List.mem_cons_self, hv, by rw [ht]; exact hR⟩, by rw [ht]; exact hS.1⟩) hS.2.2 d C.2.2.2.2.2.2.1))
/-- which exceptions, and what a throw of one wants of the tables -/
def ac_xw (own : String) (ik is ic : Nat) (E text : String) : Prop := Cond.classLink own ik E ∈ ac_tbl ∧ Cond.initialized E ∈ ac_tbl ∧ Cond.stringRef own is text ∈ tables_1 ∧ Bundle.fit E = true ∧
  (∀ w ∈ vx_atS own ic E ["java/lang/RuntimeException", "java/lang/Exception"], w ∈ ac_tbl ∨ w ∈ tables_1.filter ac_nest) ∧ ∀ w ∈ Cond.classLink own ik E :: Cond.initialized E :: vx_atS own ic E ["java/lang/RuntimeException", "java/lang/Exception"], vx_ot w = true
theorem ac_nest_ot {w : Cond} (h : w ∈ tables_1.filter ac_nest) : w.onTables = true := by
  have hk := (List.mem_filter.mp h).2
  cases w <;> first | rfl | (simp [ac_nest] at hk)
theorem ac_thr0 {p : Program} {s : State} {m : MethodId} {args : Array Value} {meth : Method} {c : Code} {H : Heap} {locs : List Loc} {h : ac_H} {own : String} {ik is ic : Nat} {E text : String} (C : ac_Cx G l M p s m args meth c) (hR : ac_R G h H) (hS : va_S (ac_A G) s.heap H locs) (ho : M.2.2.1 = own) (hw : ac_xw own ik is ic E text) :
    (∀ w ∈ vx_atS own ic E ["java/lang/RuntimeException", "java/lang/Exception"], w.before args s = true) ∧ vx_Zq Bundle.tN "UNASSIGNED_STACK" Bundle.steD (ac_A G) s s.heap ∧ vx_Zq Bundle.tN "SUPPRESSED_SENTINEL" Bundle.listD (ac_A G) s s.heap ∧ ∃ sa, vk_R own is text sa s := by
  obtain ⟨hx, hb, hml, hown, hts, hK, -, -, -, -, hG⟩ := id C
  have hS0 : ∀ a : Nat, a < G.1.size → ¬ ac_A G a → s.heap[a]? = G.1[a]? := fun a ha _ => by
    rw [← hR.1.2 a ha]
    exact (hS.2.1 a (by omega) (fun q => by have q : G.1.size ≤ a := q; omega)).symm
  refine ⟨fun w hw' => ?_, hK.2.2.2.2.2.2.2.1.kept hS0, hK.2.2.2.2.2.2.2.2.kept hS0, hK.2.2.2.1 _ _ _ hw.2.2.1⟩
  rcases hw.2.2.2.2.1 w hw' with q | q
  · exact hts w q
  · exact va_Nw.use (ac_nest_ot q) (hK.2.2.1 w q)
theorem s_throw (pc : Nat) {own : String} {ik is ic : Nat} {E text : String} (ho : M.2.2.1 = own) (htb : M.2.2.2.2.2 = []) (hw : ac_xw own ik is ic E text) (hf : 5 < R.frames) (hlo : 92 ≤ R.locals) (hmc : mc ≤ R.cells) (hms : ms ≤ R.slots)
    (d0 : decode M.1 pc = .ok (.new ik, 3)) (d3 : decode M.1 (pc + 3) = .ok (.dup, 1)) (d4 : decode M.1 (pc + 4) = .ok (.ldc is, 2)) (d6 : decode M.1 (pc + 6) = .ok (.invokespecial ic, 3)) (d9 : decode M.1 (pc + 9) = .ok (.athrow, 1)) : ac_Snd G l R M (ac_QQ G post exc mc ms) pc (thr exc E mc ms) := by
  subst ho
  intro p e s m args below meth c C L S h k n hv H locs ls hR hS hl hs
  obtain ⟨hv, h1, h2, hc8⟩ := hv
  obtain ⟨q1, q2, q3, sa, q4⟩ := ac_thr0 C hR hS rfl hw
  obtain ⟨hx, hb, hml, hown, hts, hK, hlk, -, -, htl, hG⟩ := id C
  have ht0 : c.exceptionTable.toList = [] := by rw [htl, htb]; rfl
  refine vx_throwS (sa := sa) (names := ["java/lang/RuntimeException", "java/lang/Exception"]) (text := text) hx hb hK.1.1 hown hw.2.2.2.1 (by decide) (hts _ hw.1) (hts _ hw.2.1) q4 q1 hw.2.2.2.2.2 q2 q3 hS (by rw [hml]; exact hl.2.1) d0 d3 d4 d6 d9 (fun x hx => by rw [ht0] at hx; cases hx) (by show 5 < _; exact hf) (by rw [ac_cs_sum]; show _ + (13 * 3 + 43) ≤ _; omega) (by omega) (by omega) hlk
    (fun t ht hz hq => ⟨⟨h, hv, hR.grow hz hq⟩, Nat.le_trans hS.1 hz⟩) hS.2.2 h1 h2
theorem s_throwW (pc : Nat) {own : String} {ik is ic : Nat} {E text : String} (ho : M.2.2.1 = own) (htb : M.2.2.2.2.2 = []) (hw : ac_xw own ik is ic E text) (hf : 5 < R.frames) (hlo : 92 ≤ R.locals) (hmc : mc ≤ R.cells) (hms : ms ≤ R.slots)
    (d0 : decode M.1 pc = .ok (.new ik, 3)) (d3 : decode M.1 (pc + 3) = .ok (.dup, 1)) (d4 : decode M.1 (pc + 4) = .ok (.ldc_w is, 3)) (d6 : decode M.1 (pc + 7) = .ok (.invokespecial ic, 3)) (d9 : decode M.1 (pc + 10) = .ok (.athrow, 1)) : ac_Snd G l R M (ac_QQ G post exc mc ms) pc (thr exc E mc ms) := by
  subst ho
  intro p e s m args below meth c C L S h k n hv H locs ls hR hS hl hs
  obtain ⟨hv, h1, h2, hc8⟩ := hv
  obtain ⟨q1, q2, q3, sa, q4⟩ := ac_thr0 C hR hS rfl hw
  obtain ⟨hx, hb, hml, hown, hts, hK, hlk, -, -, htl, hG⟩ := id C
  have ht0 : c.exceptionTable.toList = [] := by rw [htl, htb]; rfl
  refine vx_throwSW (sa := sa) (names := ["java/lang/RuntimeException", "java/lang/Exception"]) (text := text) hx hb hK.1.1 hown hw.2.2.2.1 (by decide) (hts _ hw.1) (hts _ hw.2.1) q4 q1 hw.2.2.2.2.2 q2 q3 hS (by rw [hml]; exact hl.2.1) d0 d3 d4 d6 d9 (fun x hx => by rw [ht0] at hx; cases hx) (by show 5 < _; exact hf) (by rw [ac_cs_sum]; show _ + (13 * 3 + 43) ≤ _; omega) (by omega) (by omega) hlk
    (fun t ht hz hq => ⟨⟨h, hv, hR.grow hz hq⟩, Nat.le_trans hS.1 hz⟩) hS.2.2 h1 h2
end AE
/-! ===== calls ===== -/
def ac_as : Nat → List ac_V → List ac_V → List ac_V
  | 0, acc, _ => acc
  | _ + 1, acc, [] => acc
  | n + 1, acc, v :: S => ac_as n (v :: acc) S
def ac_rs : Nat → List ac_V → List ac_V
  | 0, S => S
  | _ + 1, [] => []
  | n + 1, _ :: S => ac_rs n S
theorem ac_as_eq : ∀ (n : Nat) (acc S : List ac_V), n ≤ S.length → (ac_as n acc S).length = n + acc.length ∧ acc.reverse ++ S = (ac_as n acc S).reverse ++ ac_rs n S
  | 0, acc, S, _ => ⟨by simp [ac_as], rfl⟩
  | n + 1, acc, [], h => by simp at h
  | n + 1, acc, v :: S, h => by
    obtain ⟨h1, h2⟩ := ac_as_eq n (v :: acc) S (by simpa using h)
    refine ⟨by rw [ac_as, h1]; simp; omega, ?_⟩
    rw [ac_as, ac_rs, ← h2]
    simp
/-- the receiver's class, where a call wants it -/
def ac_rcv (tg : Int) (As : List ac_V) (h : ac_H) : Prop := match As with
  | .inr (.inl a) :: _ => h 0 a 0 = tg
  | _ => False
def call (na : Nat) (tg : Option Int) (sp : ac_Sp) (mc ms mc2 ms2 : Nat) (X : String → ac_H → Prop) (V : ac_S) : ac_S := fun L S h k n =>
  (na ≤ S.length ∧ (match tg with | none => True | some t => ac_rcv t (ac_as na [] S) h) ∧ ac_cs (ac_rs na S) ≤ 8 ∧ k + mc2 ≤ mc ∧ n + ms2 ≤ ms) ∧ sp.1 (ac_as na [] S) h ∧
  (∀ r h', sp.2.1 (ac_as na [] S) h r h' → V L (r.toList ++ ac_rs na S) h' (k + mc2) (n + ms2)) ∧ ∀ E h', sp.2.2 (ac_as na [] S) h E h' → X E h'
/-- what links a call to its callee's contract -/
def ac_lk (G : ac_G) (l : Launch) (R : Room) (M : ac_M) (pc : Nat) (tg : Option Int) (na : Nat) (sp : ac_Sp) (mc2 ms2 : Nat) : Prop :=
  ∀ (p : Program) (e : Env) (s : State) (m : MethodId) (args : Array Value) (below : List Frame) (meth : Method) (c : Code), ac_Cx G l M p s m args meth c → ∀ (H : Heap) (locs : List Loc) (ls : Array Slot) (k n : Nat) (As rest : List ac_V) (h : ac_H), ac_R G h H → ls.size = M.2.1 → As.length = na → (∀ v ∈ As, ac_ok v) → sp.1 As h → (match tg with | none => True | some t => ac_rcv t As h) → ac_cs rest ≤ 8 → k + mc2 ≤ R.cells ∧ n + ms2 ≤ R.slots →
  vx_Run p l e R s m args below meth c H locs k n mc2 ms2 (F0 m pc ls ((As.reverse ++ rest).map ac_v)) (rest.map ac_v) (ac_Qc G (sp.2.1 As h) (As.map ac_v).toArray) (ac_Xc G (sp.2.2 As h)) (ac_A G)
/-- a callee's words -/
def ac_Y (y : MethodName) (M2 : ac_M) (np : Nat) : Prop := ac_cw y M2 ∈ ac_tbl ∧ (y.cls ≠ "java/lang/invoke/MethodHandle" ∧ y.cls ≠ "java/lang/invoke/VarHandle" ∧ (parseMethodDescriptor y.desc).map (fun d => d.parameters.length) = some np) ∧ Cond.initialized y.cls ∈ ac_tbl
section AL
variable {G : ac_G} {l : Launch} {R : Room} {M M2 : ac_M} {QQ : List Frame → Array Value → State → State → Prop} {V : ac_S} {y : MethodName} {fr2 lo2 mc2 ms2 pc i na np mc ms : Nat} {sp : ac_Sp}
theorem ac_good (w : Cond) (h : w ∈ ac_tbl) : w ∈ ac_tbl ∧ ((w.onTables && w.keeps) = true ∨ ∃ ty, w = .arrayClass ty) := ⟨h, good_of_word (List.mem_filter.mp h).2⟩
theorem ac_gin {ws : List Cond} (h : ∀ w ∈ ws, w ∈ ac_tbl) : GoodIn ac_tbl ws := fun w hw => ac_good w (h w hw)
theorem ac_recv {tg : Int} {ci : Nat} {r : vw_C} {p : Program} {s : State} {m : MethodId} {args : Array Value} {meth : Method} {c : Code} {H : Heap} {h : ac_H} {As : List ac_V} (C : ac_Cx G l M p s m args meth c) (hR : ac_R G h H) (hc : vwCl[ci]? = some r) (hg : (20 : Int) + ci = tg) (hr : ac_rcv tg As h) :
    ∃ (a : Int) (As' : List ac_V), As = .inr (.inl a) :: As' ∧ 0 < a ∧ ∃ cell : Cell, H[(a - 1).toNat]? = some cell ∧ cell.vm.isStatics = false ∧ s.vm.findClass r.1 = some cell.cls := by
  subst hg
  unfold ac_rcv at hr
  split at hr
  · next a As' =>
    have hp := hR.bnd (a := a) (k := 0) (j := 0) (by omega)
    obtain ⟨⟨cell, q1, q2, q3, q4⟩, -⟩ := hR.2.2.2.1 ci r a hc hr
    exact ⟨a, As', rfl, hp.1, cell, q1, by rw [q3]; rfl, by rw [q2]; exact (C.2.2.2.2.2.1.2.1.1 ci _ hc).2.1⟩
  · exact hr.elim
theorem ac_mapc {a : Int} {As rest : List ac_V} (a0 : 0 < a) : ((.inr (.inl a) :: As : List ac_V).reverse ++ rest).map ac_v = (As.map ac_v).reverse ++ .ref (a - 1).toNat :: rest.map ac_v := by
  have e1 : ac_v (.inr (.inl a)) = .ref (a - 1).toNat := ac_rfr a0
  simp [e1]
theorem ac_lkV {ci : Nat} {r : vw_C} {tg : Int} (hM : ac_Met G l y M2 fr2 lo2 mc2 ms2 sp) (hY : ac_Y y M2 np) (htb : M2.2.2.2.2.2 = []) (hc : vwCl[ci]? = some r) (hg : (20 : Int) + ci = tg) (hcl : y.cls = r.1) (hna : na = np + 1)
    (hw1 : Cond.methodLink M.2.2.1 i y ∈ ac_tbl) (hw2 : Cond.instanceMethod y ∈ ac_tbl) (hw3 : Cond.selects r.1 y y ∈ ac_tbl) (hfr : fr2 + 1 ≤ R.frames) (hlo : 8 + (M2.2.1 + 11) + lo2 ≤ R.locals) (d : decode M.1 pc = .ok (.invokevirtual i, 3)) : ac_lk G l R M pc (some tg) na sp mc2 ms2 := by
  intro p e s m args below meth c C H locs ls k n As rest h hR hsz hlen hok hp hr h8 hf
  obtain ⟨a, As', rfl, a0, hcell⟩ := ac_recv C hR hc hg hr
  obtain ⟨hx, hb, hml, hown, hts, hK, -⟩ := id C
  have e1 : ac_v (.inr (.inl a)) = .ref (a - 1).toNat := ac_rfr a0
  have hcw : ac_cw y M2 = .code y M2.1 M2.2.1 M2.2.2.2.1 := by unfold ac_cw; rw [htb]
  have hm := hM _ _ hp hok
  rw [hcw] at hm
  have hY1 := hY.1
  rw [hcw] at hY1
  have hin : ∀ w ∈ wsV M.2.2.1 i r.1 y (.code y M2.1 M2.2.1 M2.2.2.2.1 :: ac_tbl), w ∈ ac_tbl := by
    intro w hw
    simp only [wsV, List.mem_append, List.mem_cons, List.not_mem_nil, or_false] at hw
    rcases hw with (rfl | rfl | rfl | rfl) | rfl | hw <;> first | assumption | exact hcl ▸ hY.2.2
  have hmr : ∀ st, (F0 m pc ls st).monitorRoom = 0 := fun _ => rfl
  have X := vx_runV (e := e) (below := below) (meth := meth) (R := R) (H := H) (locs := locs) (cells := k) (slots := n) (As := As'.map ac_v) (rest := rest.map ac_v) (b := (a - 1).toNat) (C := r.1) (g := F0 m pc ls (((.inr (.inl a) :: As' : List ac_V).reverse ++ rest).map ac_v)) ⟨hx, hb, hml, hown, hts⟩ hm
    (cwV np hts (ac_gin hin) rfl rfl rfl ⟨hcl, hY.2.1⟩ ⟨hfr, hlo⟩) ⟨ac_blind G l _ _, hcell, fun U hU hW => ⟨by rw [List.map_cons, e1], hK.warm hW, by rw [hU]; exact hR⟩⟩ rfl (by simp at hlen ⊢; omega) hsz (ac_mapc a0) (by rw [hmr, ac_cs_sum]; omega) d hf
  rw [List.map_cons, e1]
  exact X
theorem ac_lkS (hM : ac_Met G l y M2 fr2 lo2 mc2 ms2 sp) (hY : ac_Y y M2 np) (htb : M2.2.2.2.2.2 = []) (hna : na = np) (hw1 : Cond.methodLink M.2.2.1 i y ∈ ac_tbl) (hw2 : Cond.static y ∈ ac_tbl) (hfr : fr2 + 1 ≤ R.frames) (hlo : 8 + (M2.2.1 + 11) + lo2 ≤ R.locals)
    (d : decode M.1 pc = .ok (.invokestatic i, 3)) : ac_lk G l R M pc none na sp mc2 ms2 := by
  intro p e s m args below meth c C H locs ls k n As rest h hR hsz hlen hok hp hr h8 hf
  obtain ⟨hx, hb, hml, hown, hts, hK, -⟩ := id C
  have hcw : ac_cw y M2 = .code y M2.1 M2.2.1 M2.2.2.2.1 := by unfold ac_cw; rw [htb]
  have hm := hM _ _ hp hok
  rw [hcw] at hm
  have hY1 := hY.1
  rw [hcw] at hY1
  have hin : ∀ w ∈ va_wsS M.2.2.1 i y (.code y M2.1 M2.2.1 M2.2.2.2.1 :: ac_tbl), w ∈ ac_tbl := by
    intro w hw
    simp only [va_wsS, List.mem_append, List.mem_cons, List.not_mem_nil, or_false] at hw
    rcases hw with (rfl | rfl | rfl) | rfl | hw <;> first | assumption | exact hY.2.2
  have hmr : ∀ st, (F0 m pc ls st).monitorRoom = 0 := fun _ => rfl
  exact vx_runS (As := As.map ac_v) (rest := rest.map ac_v) (g := F0 m pc ls ((As.reverse ++ rest).map ac_v)) ⟨hx, hb, hml, hown, hts⟩ hm
    (va_cwS np hts (ac_gin hin) rfl rfl rfl hY.2.1 ⟨hfr, hlo⟩) ⟨ac_blind G l _ _, fun U hU hW => ⟨rfl, hK.warm hW, by rw [hU]; exact hR⟩⟩ rfl (by simp; omega) hsz (by simp [F0]) (by rw [hmr, ac_cs_sum]; omega) d hf
theorem ac_lkSX (hM : ac_Met G l y M2 fr2 lo2 mc2 ms2 sp) (hY : ac_Y y M2 np) (htb : M2.2.2.2.2.2 ≠ []) (hna : na = np) (hw1 : Cond.methodLink M.2.2.1 i y ∈ ac_tbl) (hw2 : Cond.static y ∈ ac_tbl) (hfr : fr2 + 1 ≤ R.frames) (hlo : 8 + (M2.2.1 + 11) + lo2 ≤ R.locals)
    (d : decode M.1 pc = .ok (.invokestatic i, 3)) : ac_lk G l R M pc none na sp mc2 ms2 := by
  intro p e s m args below meth c C H locs ls k n As rest h hR hsz hlen hok hp hr h8 hf
  obtain ⟨hx, hb, hml, hown, hts, hK, -⟩ := id C
  have hcw : ac_cw y M2 = .codeWith y M2.1 M2.2.1 M2.2.2.2.1 M2.2.2.2.2.2 := by
    unfold ac_cw
    split
    · next h => exact absurd h htb
    · next hh => rfl
  have hm := hM _ _ hp hok
  rw [hcw] at hm
  have hY1 := hY.1
  rw [hcw] at hY1
  have hin : ∀ w ∈ va_wsS M.2.2.1 i y (.codeWith y M2.1 M2.2.1 M2.2.2.2.1 M2.2.2.2.2.2 :: ac_tbl), w ∈ ac_tbl := by
    intro w hw
    simp only [va_wsS, List.mem_append, List.mem_cons, List.not_mem_nil, or_false] at hw
    rcases hw with (rfl | rfl | rfl) | rfl | hw <;> first | assumption | exact hY.2.2
  have hmr : ∀ st, (F0 m pc ls st).monitorRoom = 0 := fun _ => rfl
  exact vx_runSX (As := As.map ac_v) (rest := rest.map ac_v) (g := F0 m pc ls ((As.reverse ++ rest).map ac_v)) ⟨hx, hb, hml, hown, hts⟩ hm
    (vx_cwSW np hts (ac_gin hin) rfl rfl rfl hY.2.1 ⟨hfr, hlo⟩) ⟨ac_blind G l _ _, fun U hU hW => ⟨rfl, hK.warm hW, by rw [hU]; exact hR⟩⟩ rfl (by simp; omega) hsz (by simp [F0]) (by rw [hmr, ac_cs_sum]; omega) d hf
theorem ac_lkI (hM : ac_Met G l y M2 fr2 lo2 mc2 ms2 sp) (hY : ac_Y y M2 np) (htb : M2.2.2.2.2.2 = []) (hrt : M2.2.2.2.1 = none) (hnm : y.name = "<init>") (hna : na = np + 1) (hrv : ∀ As h, sp.1 As h → ∃ (a : Int) (As' : List ac_V), As = .inr (.inl a) :: As' ∧ 0 < a)
    (hw1 : Cond.methodLink M.2.2.1 i y ∈ ac_tbl) (hw2 : Cond.instanceMethod y ∈ ac_tbl) (hfr : fr2 + 1 ≤ R.frames) (hlo : 8 + (M2.2.1 + 11) + lo2 ≤ R.locals) (d : decode M.1 pc = .ok (.invokespecial i, 3)) : ac_lk G l R M pc none na sp mc2 ms2 := by
  intro p e s m args below meth c C H locs ls k n As rest h hR hsz hlen hok hp hr h8 hf
  obtain ⟨a, As', rfl, a0⟩ := hrv _ _ hp
  obtain ⟨hx, hb, hml, hown, hts, hK, -⟩ := id C
  have e1 : ac_v (.inr (.inl a)) = .ref (a - 1).toNat := ac_rfr a0
  have hcw : ac_cw y M2 = .code y M2.1 M2.2.1 none := by unfold ac_cw; rw [htb, hrt]
  have hm := hM _ _ hp hok
  rw [hcw] at hm
  have hY1 := hY.1
  rw [hcw] at hY1
  have hin : ∀ w ∈ (.code y M2.1 M2.2.1 none :: ac_tbl : List Cond), w ∈ ac_tbl := by
    intro w hw
    rcases List.mem_cons.mp hw with rfl | hw <;> assumption
  have hmr : ∀ st, (F0 m pc ls st).monitorRoom = 0 := fun _ => rfl
  have X := vx_runI (e := e) (below := below) (meth := meth) (R := R) (H := H) (locs := locs) (cells := k) (slots := n) (As := As'.map ac_v) (rest := rest.map ac_v) (b := (a - 1).toNat) (g := F0 m pc ls (((.inr (.inl a) :: As' : List ac_V).reverse ++ rest).map ac_v)) ⟨hx, hb, hml, hown, hts⟩ hm
    ⟨callB_of np hts (ac_gin hin) rfl rfl rfl (hts _ hY.2.2) (hts _ hw1) hY.2.1 ⟨hfr, hlo⟩, hnm, hts _ hw2⟩ ⟨ac_blind G l _ _, fun U hU hW => ⟨by rw [List.map_cons, e1], hK.warm hW, by rw [hU]; exact hR⟩⟩ rfl (by simp at hlen ⊢; omega) hsz (ac_mapc a0) (by rw [hmr, ac_cs_sum]; omega) d hf
  rw [List.map_cons, e1]
  exact X
theorem ac_lkIN {host : String} (hM : ac_Met G l y M2 fr2 lo2 mc2 ms2 sp) (hY : ac_Y y M2 np) (htb : M2.2.2.2.2.2 = []) (hrt : M2.2.2.2.1 = none) (hnm : y.name = "<init>") (hna : na = np + 1) (hrv : ∀ As h, sp.1 As h → ∃ (a : Int) (As' : List ac_V), As = .inr (.inl a) :: As' ∧ 0 < a)
    (hw1 : Cond.methodLinkNest M.2.2.1 i y host ∈ tables_1.filter ac_nest) (hw2 : Cond.instanceMethod y ∈ ac_tbl) (hfr : fr2 + 1 ≤ R.frames) (hlo : 8 + (M2.2.1 + 11) + lo2 ≤ R.locals) (d : decode M.1 pc = .ok (.invokespecial i, 3)) : ac_lk G l R M pc none na sp mc2 ms2 := by
  intro p e s m args below meth c C H locs ls k n As rest h hR hsz hlen hok hp hr h8 hf
  obtain ⟨a, As', rfl, a0⟩ := hrv _ _ hp
  obtain ⟨hx, hb, hml, hown, hts, hK, -⟩ := id C
  have e1 : ac_v (.inr (.inl a)) = .ref (a - 1).toNat := ac_rfr a0
  have hcw : ac_cw y M2 = .code y M2.1 M2.2.1 none := by unfold ac_cw; rw [htb, hrt]
  have hm := hM _ _ hp hok
  rw [hcw] at hm
  have hY1 := hY.1
  rw [hcw] at hY1
  have hin : ∀ w ∈ (.code y M2.1 M2.2.1 none :: ac_tbl : List Cond), w ∈ ac_tbl := by
    intro w hw
    rcases List.mem_cons.mp hw with rfl | hw <;> assumption
  have hmr : ∀ st, (F0 m pc ls st).monitorRoom = 0 := fun _ => rfl
  have X := vx_runIN (e := e) (below := below) (meth := meth) (R := R) (H := H) (locs := locs) (cells := k) (slots := n) (As := As'.map ac_v) (rest := rest.map ac_v) (b := (a - 1).toNat) (g := F0 m pc ls (((.inr (.inl a) :: As' : List ac_V).reverse ++ rest).map ac_v)) ⟨hx, hb, hml, hown, hts⟩ hm
    ⟨va_cnB np hts (ac_gin hin) rfl rfl rfl (hK.2.2.1 _ hw1) (hts _ hY.2.2) hY.2.1 ⟨hfr, hlo⟩, hnm, hts _ hw2⟩ ⟨ac_blind G l _ _, fun U hU hW => ⟨by rw [List.map_cons, e1], hK.warm hW, by rw [hU]; exact hR⟩⟩ rfl (by simp at hlen ⊢; omega) hsz (ac_mapc a0) (by rw [hmr, ac_cs_sum]; omega) d hf
  rw [List.map_cons, e1]
  exact X
theorem ac_lkSN {host : String} (hM : ac_Met G l y M2 fr2 lo2 mc2 ms2 sp) (hY : ac_Y y M2 np) (htb : M2.2.2.2.2.2 = []) (hna : na = np) (hw1 : Cond.methodLinkNest M.2.2.1 i y host ∈ tables_1.filter ac_nest) (hw2 : Cond.static y ∈ ac_tbl) (hfr : fr2 + 1 ≤ R.frames) (hlo : 8 + (M2.2.1 + 11) + lo2 ≤ R.locals)
    (d : decode M.1 pc = .ok (.invokestatic i, 3)) : ac_lk G l R M pc none na sp mc2 ms2 := by
  intro p e s m args below meth c C H locs ls k n As rest h hR hsz hlen hok hp hr h8 hf
  obtain ⟨hx, hb, hml, hown, hts, hK, -⟩ := id C
  have hcw : ac_cw y M2 = .code y M2.1 M2.2.1 M2.2.2.2.1 := by unfold ac_cw; rw [htb]
  have hm := hM _ _ hp hok
  rw [hcw] at hm
  have hY1 := hY.1
  rw [hcw] at hY1
  have hin : ∀ w ∈ (.code y M2.1 M2.2.1 M2.2.2.2.1 :: ac_tbl : List Cond), w ∈ ac_tbl := by
    intro w hw
    rcases List.mem_cons.mp hw with rfl | hw <;> assumption
  have hmr : ∀ st, (F0 m pc ls st).monitorRoom = 0 := fun _ => rfl
  exact vx_runSN (As := As.map ac_v) (rest := rest.map ac_v) (g := F0 m pc ls ((As.reverse ++ rest).map ac_v)) ⟨hx, hb, hml, hown, hts⟩ hm
    ⟨va_cnB np hts (ac_gin hin) rfl rfl rfl (hK.2.2.1 _ hw1) (hts _ hY.2.2) hY.2.1 ⟨hfr, hlo⟩, hts _ hw2, trivial⟩ ⟨ac_blind G l _ _, fun U hU hW => ⟨rfl, hK.warm hW, by rw [hU]; exact hR⟩⟩ rfl (by simp; omega) hsz (by simp [F0]) (by rw [hmr, ac_cs_sum]; omega) d hf
theorem ac_after {s : State} {H H' : Heap} {locs L : List Loc} {h h' : ac_H} (hR : ac_R G h H) (hS : va_S (ac_A G) s.heap H locs) (hR' : ac_R G h' H') (hz : H.size ≤ H'.size) (hL : ∀ q ∈ L, ac_A G q.base) : va_S (ac_A G) s.heap H' (locs ++ L) := by
  refine ⟨Nat.le_trans hS.1 hz, fun q h1 h2 => ?_, fun q hq => ?_⟩
  · have h3 : q < G.1.size := Nat.not_le.mp h2
    rw [hR'.1.2 q h3, ← hR.1.2 q h3]
    exact hS.2.1 q h1 h2
  · rcases List.mem_append.mp hq with h | h
    · exact hS.2.2 q h
    · exact hL q h
theorem ac_toL (r : Option ac_V) (S : List ac_V) : (r.map ac_v).toList ++ S.map ac_v = (r.toList ++ S).map ac_v := by cases r <;> simp
/-- a call whose exceptions go on to the caller -/
theorem s_call {post : Option ac_V → ac_H → Prop} {exc : String → ac_H → Prop} {tg : Option Int} (pc : Nat) (htb : M.2.2.2.2.2 = []) (hmc : mc ≤ R.cells) (hms : ms ≤ R.slots) (hk : ac_lk G l R M pc tg na sp mc2 ms2) (hV : ac_Snd G l R M (ac_QQ G post exc mc ms) (pc + 3) V) : ac_Snd G l R M (ac_QQ G post exc mc ms) pc (call na tg sp mc ms mc2 ms2 exc V) := by
  intro p e s m args below meth c C L S h k n hv H locs ls hR hS hl hs
  obtain ⟨⟨c1, c2, c3, c4, c5⟩, hp, hv, hx⟩ := hv
  obtain ⟨e1, e2⟩ := ac_as_eq na [] S c1
  have e2 : S = (ac_as na [] S).reverse ++ ac_rs na S := by simpa using e2
  have hok : (∀ v ∈ ac_as na [] S, ac_ok v) ∧ ∀ v ∈ ac_rs na S, ac_ok v := by
    rw [e2] at hs
    exact ⟨fun v hv => hs v (List.mem_append_left _ (List.mem_reverse.mpr hv)), fun v hv => hs v (List.mem_append_right _ hv)⟩
  have hr := hk p e s m args below meth c C H locs ls k n (ac_as na [] S) (ac_rs na S) h hR hl.2.1 (by simpa using e1) hok.1 hp c2 c3 ⟨by omega, by omega⟩
  rw [← e2] at hr
  intro T hT X
  rcases hr T hT X with ⟨v, st₀, t, T', L9, h0, X', hL, g1, g2, ⟨⟨r, h', hv', hok', hp', hR'⟩, hz⟩, st⟩ | ⟨q, st₀, t, T', L9, E, ce, h0, X', hL, g1, g2, ⟨⟨h', hp', hR'⟩, hz⟩, hce, hcv, hcl, st⟩
  · cases hv'
    rw [h0, ← g1] at hz
    rw [← g1] at hR'
    obtain ⟨t2, a1, b1⟩ := hV p e s m args below meth c C _ _ _ _ _ (hv r h' hp') T'.heap (locs ++ L9) ls hR' (ac_after hR hS hR' hz hL) hl (fun w hw => by
      rcases List.mem_append.mp hw with h1 | h1
      · exact hok' w (by simpa using h1)
      · exact hok.2 w h1) T' rfl X'
    refine ⟨t2, st t2 ?_, b1⟩
    rw [ac_toL]
    exact a1
  · rw [h0, ← g1] at hz
    rw [← g1] at hR' hce
    have ht0 : c.exceptionTable.toList = [] := by rw [C.2.2.2.2.2.2.2.2.2.1, htb]; rfl
    have hS' := ac_after hR hS hR' hz hL
    obtain ⟨t2, a1, b1⟩ := vx_out (rest := (ac_rs na S).map ac_v) (ls := ls) (pc := pc) (p := p) (l := l) (e := e) (R := R) (m := m) (args := args) (below := below) (mc := mc) (ms := ms) (Qc := ac_Qc G post) (XC := ac_Xc G exc) (free := ac_A G) (fun x hx => by rw [ht0] at hx; cases hx) C.2.2.2.2.2.2.1 hce hcv hcl (fun t ht hvm => ⟨⟨h', hx E h' hp', by rw [ht]; exact hR'⟩, by rw [ht]; exact hS'.1⟩) hS'.2.2 c4 c5 T' rfl X'
    exact ⟨t2, st.trans a1, b1⟩
/-- a call that throws nothing -/
theorem s_callN {tg : Option Int} {X : String → ac_H → Prop} (pc : Nat) (hX : ∀ E h, ¬ X E h) (hmc : mc ≤ R.cells) (hms : ms ≤ R.slots) (hk : ac_lk G l R M pc tg na sp mc2 ms2) (hV : ac_Snd G l R M QQ (pc + 3) V) : ac_Snd G l R M QQ pc (call na tg sp mc ms mc2 ms2 X V) := by
  intro p e s m args below meth c C L S h k n hv H locs ls hR hS hl hs
  obtain ⟨⟨c1, c2, c3, c4, c5⟩, hp, hv, hx⟩ := hv
  obtain ⟨e1, e2⟩ := ac_as_eq na [] S c1
  have e2 : S = (ac_as na [] S).reverse ++ ac_rs na S := by simpa using e2
  have hok : (∀ v ∈ ac_as na [] S, ac_ok v) ∧ ∀ v ∈ ac_rs na S, ac_ok v := by
    rw [e2] at hs
    exact ⟨fun v hv => hs v (List.mem_append_left _ (List.mem_reverse.mpr hv)), fun v hv => hs v (List.mem_append_right _ hv)⟩
  have hr := hk p e s m args below meth c C H locs ls k n (ac_as na [] S) (ac_rs na S) h hR hl.2.1 (by simpa using e1) hok.1 hp c2 c3 ⟨by omega, by omega⟩
  rw [← e2] at hr
  intro T hT X
  rcases hr T hT X with ⟨v, st₀, t, T', L9, h0, X', hL, g1, g2, ⟨⟨r, h', hv', hok', hp', hR'⟩, hz⟩, st⟩ | ⟨q, st₀, t, T', L9, E, ce, h0, X', hL, g1, g2, ⟨⟨h', hp', hR'⟩, hz⟩, hce, hcv, hcl, st⟩
  · cases hv'
    rw [h0, ← g1] at hz
    rw [← g1] at hR'
    obtain ⟨t2, a1, b1⟩ := hV p e s m args below meth c C _ _ _ _ _ (hv r h' hp') T'.heap (locs ++ L9) ls hR' (ac_after hR hS hR' hz hL) hl (fun w hw => by
      rcases List.mem_append.mp hw with h1 | h1
      · exact hok' w (by simpa using h1)
      · exact hok.2 w h1) T' rfl X'
    refine ⟨t2, st t2 ?_, b1⟩
    rw [ac_toL]
    exact a1
  · exact (hX _ _ (hx E h' hp')).elim
end AL
