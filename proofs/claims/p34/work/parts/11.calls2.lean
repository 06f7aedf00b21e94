/-! ===== a call whose exceptions are caught here ===== -/
def ac_hsel : List (String × ac_S) → String → ac_S
  | [], _ => fun _ _ _ _ _ => False
  | (E, V) :: r, F => if F = E then V else ac_hsel r F
def callH (na : Nat) (tg : Option Int) (sp : ac_Sp) (mc ms mc2 ms2 : Nat) (hh : List (String × ac_S)) (V : ac_S) : ac_S := fun L S h k n =>
  (na ≤ S.length ∧ (match tg with | none => True | some t => ac_rcv t (ac_as na [] S) h) ∧ ac_cs (ac_rs na S) ≤ 8 ∧ k + mc2 ≤ mc ∧ n + ms2 ≤ ms) ∧ sp.1 (ac_as na [] S) h ∧
  (∀ r h', sp.2.1 (ac_as na [] S) h r h' → V L (r.toList ++ ac_rs na S) h' (k + mc2) (n + ms2)) ∧ ∀ E h', sp.2.2 (ac_as na [] S) h E h' → ∀ a : Int, 0 < a → ac_hsel hh E L [.inr (.inl a)] h' (k + mc2) (n + ms2)
def ac_hok (G : ac_G) (l : Launch) (R : Room) (M : ac_M) (QQ : List Frame → Array Value → State → State → Prop) (pc : Nat) : List (Nat × Nat × Nat × Nat) → List (String × ac_S) → Prop
  | [], [] => True
  | (f, t, hp, ix) :: r, (E, V) :: r' => (f ≤ pc ∧ pc < t ∧ ix ≠ 0 ∧ Cond.classLink M.2.2.1 ix E ∈ ac_tbl ∧ Cond.castable E E ∈ tables_1.filter ac_nest ∧ E ∈ ac_ex) ∧ ac_Snd G l R M QQ hp V ∧ ac_hok G l R M QQ pc r r'
  | _, _ => False
section AH
variable {G : ac_G} {l : Launch} {R : Room} {M : ac_M} {QQ : List Frame → Array Value → State → State → Prop} {V : ac_S} {mc2 ms2 na mc ms : Nat} {sp : ac_Sp}
theorem ac_catch {p : Program} {e : Env} {s : State} {m : MethodId} {args : Array Value} {below : List Frame} {meth : Method} {c : Code} {H : Heap} {locs : List Loc} {ls : Array Slot} {L : ac_L} {h : ac_H} {k n pc : Nat} {rest : List Value} {E : String} {ce : Cell} {q : Addr}
    (C : ac_Cx G l M p s m args meth c) (hR : ac_R G h H) (hS : va_S (ac_A G) s.heap H locs) (hl : ac_lr M.2.1 L ls) (hcell : H[q]? = some ce) (hv : ce.vm = .none) (hcl : s.vm.findClass E = some ce.cls) :
    ∀ (rem : List (Nat × Nat × Nat × Nat)) (hh : List (String × ac_S)) (pre : List ExceptionTableEntry), c.exceptionTable.toList = pre ++ tableOf rem → (E ∈ ac_ex → ∀ z ∈ pre, covers z pc = false ∨ (z.catchType ≠ 0 ∧ ∃ nm : String, (Cond.classLink M.2.2.1 z.catchType nm).before args s = true ∧ va_Nc E nm s)) →
      ac_hok G l R M QQ pc rem hh → ac_hsel hh E L [.inr (.inl ((q : Int) + 1))] h k n → vx_W p l e R s m args below meth c H locs k n (QQ below args s) (F0 m pc ls rest) q
  | [], [], pre, _, _, _, hs => hs.elim
  | [], _ :: _, _, _, _, hk, _ => hk.elim
  | _ :: _, [], _, _, _, hk, _ => hk.elim
  | (f, t, hp, ix) :: r, (F, V) :: r', pre, htb, hpass, ⟨⟨k1, k2, k3, k4, k5, k6⟩, hV, hk⟩, hs => by
    obtain ⟨hx, hb, hml, hown, hts, hK, -⟩ := id C
    unfold ac_hsel at hs
    split at hs
    · next hEF =>
      subst hEF
      refine vx_catch (own := M.2.2.1) (name := E) hown pre ⟨f, t, hp, ix⟩ (tableOf r) htb (hpass k6) ?_ k3 (hts _ k4) (va_Nw.use (by rfl) (hK.2.2.1 _ k5)) hcell hv hcl ?_
      · simp [covers, k1, k2]
      · have K := hV p e s m args below meth c C _ _ _ _ _ hs H locs ls hR hS hl (fun v hv => by rw [List.mem_singleton.mp hv]; show (0 : Int) ≤ _; omega)
        rw [List.map_cons, ac_vs] at K
        exact K
    · next hEF =>
      refine ac_catch C hR hS hl hcell hv hcl r r' (pre ++ [⟨f, t, hp, ix⟩]) (by rw [htb]; simp [tableOf]) (fun hE z hz => ?_) hk hs
      rcases List.mem_append.mp hz with hz | hz
      · exact hpass hE z hz
      · rw [List.mem_singleton.mp hz]
        exact Or.inr ⟨k3, F, hts _ k4, hK.1.2 E hE F k6 hEF⟩
theorem s_callH {tg : Option Int} {hh : List (String × ac_S)} (pc : Nat) (hH : ac_hok G l R M QQ pc M.2.2.2.2.2 hh) (hmc : mc ≤ R.cells) (hms : ms ≤ R.slots) (hk : ac_lk G l R M pc tg na sp mc2 ms2) (hV : ac_Snd G l R M QQ (pc + 3) V) : ac_Snd G l R M QQ pc (callH na tg sp mc ms mc2 ms2 hh V) := by
  intro p e s m args below meth c C L S h k n hv H locs ls hR hS hl hs
  obtain ⟨⟨c1, c2, c3, c4, c5⟩, hp, hv, hx⟩ := hv
  obtain ⟨e1, e2⟩ := ac_as_eq na [] S c1
  have e2 : S = (ac_as na [] S).reverse ++ ac_rs na S := by simpa using e2
  have hok : (∀ v ∈ ac_as na [] S, ac_ok v) ∧ ∀ v ∈ ac_rs na S, ac_ok v := by
    rw [e2] at hs
    exact ⟨fun v hv => hs v (List.mem_append_left _ (List.mem_reverse.mpr hv)), fun v hv => hs v (List.mem_append_right _ hv)⟩
  have hr := hk p e s m args below meth c C H locs ls k n (ac_as na [] S) (ac_rs na S) h hR hl.2.1 (by simpa using e1) hok.1 hp c2 c3 ⟨by omega, by omega⟩
  rw [← e2] at hr
  intro T hT X
  rcases hr T hT X with ⟨v, st₀, t, T', L9, h0, X', hL, g1, g2, ⟨⟨r, h', hv', hok', hp', hR'⟩, hz⟩, st⟩ | ⟨q, st₀, t, T', L9, E, ce, h0, X', hL, g1, g2, ⟨⟨h', hp', hR'⟩, hz⟩, hce, hcv, hcl, st⟩
  · cases hv'
    rw [h0, ← g1] at hz
    rw [← g1] at hR'
    obtain ⟨t2, a1, b1⟩ := hV p e s m args below meth c C _ _ _ _ _ (hv r h' hp') T'.heap (locs ++ L9) ls hR' (ac_after hR hS hR' hz hL) hl (fun w hw => by
      rcases List.mem_append.mp hw with h1 | h1
      · exact hok' w (by simpa using h1)
      · exact hok.2 w h1) T' rfl X'
    refine ⟨t2, st t2 ?_, b1⟩
    rw [ac_toL]
    exact a1
  · rw [h0, ← g1] at hz
    rw [← g1] at hR' hce
    have hS' := ac_after hR hS hR' hz hL
    obtain ⟨t2, a1, b1⟩ := ac_catch (QQ := QQ) (e := e) (below := below) (R := R) (pc := pc) (k := k + mc2) (n := n + ms2) (rest := (ac_rs na S).map ac_v) C hR' hS' hl hce hcv hcl M.2.2.2.2.2 hh [] (by rw [C.2.2.2.2.2.2.2.2.2.1]; rfl) (fun _ z hz => nomatch hz) hH (hx E h' hp' _ (by omega)) T' rfl X'
    exact ⟨t2, st.trans a1, b1⟩
/-! ===== a method's contract out of its body's lemma ===== -/
variable {y : MethodName} {fr lo : Nat}
theorem ac_meth {pcs : Nat → Nat} {B : (Option ac_V → ac_H → Prop) → (String → ac_H → Prop) → (Nat → ac_S) → Nat → ac_S} (hy : plainName y.cls = true) (ho : y.cls = M.2.2.1) (hn : y.name = M.2.2.2.2.1) (h0 : pcs 0 = 0)
    (hB : ∀ (P : Option ac_V → ac_H → Prop) (X : String → ac_H → Prop) (J : Nat → ac_S), (∀ i, ac_Snd G l (ac_rm fr lo mc ms) M (ac_QQ G P X mc ms) (pcs i) (J i)) → ∀ j, ac_Snd G l (ac_rm fr lo mc ms) M (ac_QQ G P X mc ms) (pcs j) (B P X J j))
    (hpre : ∀ As h, sp.1 As h → As.length ≤ M.2.1 ∧ ∀ w ∈ As, ∀ x, w ≠ .inr (.inr x))
    (body : ∀ (As : List ac_V) (h : ac_H), sp.1 As h → ∃ (I : Nat → Nat → ac_S) (m0 : Nat), I 0 m0 (ac_ent M.2.1 As) [] h 0 0 ∧ ∀ (j m : Nat) (L : ac_L) (S : List ac_V) (h' : ac_H) (k n : Nat), I j m L S h' k n → B (sp.2.1 As h) (sp.2.2 As h) (fun i L S h k n => ∃ m', m' < m ∧ I i m' L S h k n) j L S h' k n) : ac_Met G l y M fr lo mc ms sp := by
  refine ac_met hy ho hn hpre fun As h hp => ?_
  obtain ⟨I, m0, h1, h2⟩ := body As h hp
  have h3 := ac_loops (pcs := pcs) (I := I) (B := fun j J => B (sp.2.1 As h) (sp.2.2 As h) J j) (fun j J hJ => hB _ _ J hJ j) h2 m0 0
  rw [h0] at h3
  exact ⟨_, h3, h1⟩
/-- .. without a loop -/
theorem ac_meth1 {pcs : Nat → Nat} {B : (Option ac_V → ac_H → Prop) → (String → ac_H → Prop) → (Nat → ac_S) → Nat → ac_S} (hy : plainName y.cls = true) (ho : y.cls = M.2.2.1) (hn : y.name = M.2.2.2.2.1) (h0 : pcs 0 = 0)
    (hB : ∀ (P : Option ac_V → ac_H → Prop) (X : String → ac_H → Prop) (J : Nat → ac_S), (∀ i, ac_Snd G l (ac_rm fr lo mc ms) M (ac_QQ G P X mc ms) (pcs i) (J i)) → ∀ j, ac_Snd G l (ac_rm fr lo mc ms) M (ac_QQ G P X mc ms) (pcs j) (B P X J j))
    (hpre : ∀ As h, sp.1 As h → As.length ≤ M.2.1 ∧ ∀ w ∈ As, ∀ x, w ≠ .inr (.inr x))
    (body : ∀ (As : List ac_V) (h : ac_H), sp.1 As h → B (sp.2.1 As h) (sp.2.2 As h) (fun _ _ _ _ _ _ => False) 0 (ac_ent M.2.1 As) [] h 0 0) : ac_Met G l y M fr lo mc ms sp := by
  refine ac_met hy ho hn hpre fun As h hp => ?_
  have h3 := hB (sp.2.1 As h) (sp.2.2 As h) (fun _ _ _ _ _ _ => False) (fun i p e s m args below meth c C L S h k n hv => hv.elim) 0
  rw [h0] at h3
  exact ⟨_, h3, body As h hp⟩
end AH
theorem ac_irgd {x : Int} (h : decide (-2147483648 ≤ x ∧ x < 2147483648) = true) : ac_irg x := by
  have h2 := of_decide_eq_true h
  exact h2
theorem ac_jrgd {x : Int} (h : decide (-9223372036854775808 ≤ x ∧ x < 9223372036854775808) = true) : ac_jrg x := by
  have h2 := of_decide_eq_true h
  exact h2
