/-! ===== words, links ===== -/
theorem ac_inT {w : Cond} (i : Nat) (h : (tables_1[i]? == some w && goodWord w) = true) : w ∈ ac_tbl := by
  rw [Bool.and_eq_true, beq_iff_eq] at h
  exact List.mem_filter.mpr ⟨List.mem_append_right _ (List.mem_of_getElem? h.1), h.2⟩
theorem ac_inN {w : Cond} (i : Nat) (h : (tables_1[i]? == some w && ac_nest w) = true) : w ∈ tables_1.filter ac_nest := by
  rw [Bool.and_eq_true, beq_iff_eq] at h
  exact List.mem_filter.mpr ⟨List.mem_of_getElem? h.1, h.2⟩
theorem ac_inS {w : Cond} (i : Nat) (h : ((k2_sels lw_privs)[i]? == some w && goodWord w) = true) : w ∈ ac_tbl := by
  rw [Bool.and_eq_true, beq_iff_eq] at h
  exact List.mem_filter.mpr ⟨List.mem_append_left _ (List.mem_of_getElem? h.1), h.2⟩
theorem ac_uw0 : ∀ ci, ci < 9 → ((vwCl[ci]?.map fun r => (u_ws r.1 r.2.1 r.2.2).all (fun w => decide (w ∈ tables_1) && goodWord w)) = some true) := by decide +kernel
theorem ac_uws {ci : Nat} {r : vw_C} (hc : vwCl[ci]? = some r) : ∀ w ∈ u_ws r.1 r.2.1 r.2.2, w ∈ ac_tbl := by
  have h := ac_uw0 ci (ac_cl_len hc).1
  rw [hc] at h
  intro w hw
  have h2 := List.all_eq_true.mp (Option.some.inj h) w hw
  rw [Bool.and_eq_true, decide_eq_true_eq] at h2
  exact List.mem_filter.mpr ⟨List.mem_append_right _ h2.1, h2.2⟩
theorem ac_ty0 : ∀ ci, ci < 9 → ∀ k, k < 40 → (vwCl[ci]?.map fun r => decide (k < r.2.2 → parseFieldDescriptor (r.2.1 k).2.2.1 = some (ac_ty ci k))) = some true := by decide +kernel
theorem ac_tyk {ci k : Nat} {r : vw_C} (hc : vwCl[ci]? = some r) (hk : k < r.2.2) : parseFieldDescriptor (r.2.1 k).2.2.1 = some (ac_ty ci k) := by
  obtain ⟨h1, h2⟩ := ac_cl_len hc
  have h := ac_ty0 ci h1 k (by omega)
  rw [hc] at h
  exact (of_decide_eq_true (Option.some.inj h)) hk
theorem ac_nm0 : ∀ ci, ci < 9 → (vwCl[ci]?.map fun r => (List.range r.2.2).all fun a => (List.range r.2.2).all fun b => decide (a = b) || decide ((r.2.1 a).2.1 ≠ (r.2.1 b).2.1)) = some true := by decide +kernel
theorem ac_nmk {ci : Nat} {r : vw_C} (hc : vwCl[ci]? = some r) : ∀ a, a < r.2.2 → ∀ b, b < r.2.2 → a ≠ b → (r.2.1 a).2.1 ≠ (r.2.1 b).2.1 := by
  have h := ac_nm0 ci (ac_cl_len hc).1
  rw [hc] at h
  intro a ha b hb hne
  have h2 := List.all_eq_true.mp (List.all_eq_true.mp (Option.some.inj h) a (List.mem_range.mpr ha)) b (List.mem_range.mpr hb)
  rw [Bool.or_eq_true, decide_eq_true_eq, decide_eq_true_eq] at h2
  exact h2.resolve_left hne
/-- the field k of class ci, by entry i of class own's pool; 'b': it is final -/
def ac_fl (own : String) (i ci k : Nat) (b : Bool) : Prop := ∃ r : vw_C, vwCl[ci]? = some r ∧ k < r.2.2 ∧ (r.2.1 k).2.2.2 = b ∧ (r.2.1 k).1 = r.1 ∧
  (Cond.fieldLink own i (r.2.1 k).1 (r.2.1 k).2.1 (r.2.1 k).2.2.1 ∈ ac_tbl ∨ ∃ host, Cond.fieldLinkNest own i (r.2.1 k).1 (r.2.1 k).2.1 (r.2.1 k).2.2.1 host ∈ tables_1.filter ac_nest)
section AW
variable {G : ac_G} {l : Launch} {M : ac_M} {p : Program} {e : Env} {R : Room} {s : State} {m : MethodId} {args : Array Value} {below : List Frame} {meth : Method} {c : Code} {H : Heap} {locs : List Loc} {cells slots : Nat} {Q : State → Prop} {h : ac_H} {ls : Array Slot} {rest : List Value} {a : Int} {pc i ci k : Nat} {b : Bool}
theorem ac_getW (C : ac_Cx G l M p s m args meth c) (hR : ac_R G h H) (hF : ac_fl M.2.2.1 i ci k b) (ht : h 0 a 0 = 20 + ci) (d : decode M.1 pc = .ok (.getfield i, 3))
    (kk : W p l e R s m args below meth c H locs cells slots Q (F0 m (pc + 3) ls (ac_fv ci k (h (100 * (ci + 1) + k) a 0) :: rest))) : W p l e R s m args below meth c H locs cells slots Q (F0 m pc ls (ac_v (.inr (.inl a)) :: rest)) := by
  obtain ⟨hx, hb, hml, hown, hts, hK, -⟩ := C
  obtain ⟨r, hc, hk, -, -, hlink⟩ := hF
  have hp := hR.bnd (a := a) (k := 0) (j := 0) (by omega)
  have e1 : ac_v (.inr (.inl a)) = .ref (a - 1).toNat := ac_rfr hp.1
  rw [e1]
  obtain ⟨⟨cell, q1, q2, q3, q4⟩, -⟩ := hR.2.2.2.1 ci r a hc ht
  obtain ⟨hS, hfc, kC, hkC, hkind⟩ := hK.2.1.1 ci _ hc
  obtain ⟨cf, kf, fi, f, hi, hsl⟩ := hS k hk
  have hst := (u_facts hfc hkC (u_lays hts (ac_uws hc) hk) hi).1
  have hv : cell.slots[f.slot]? = some (ac_fv ci k (h (100 * (ci + 1) + k) a 0)) := by rw [hsl]; exact q4 k hk
  rcases hlink with hlink | ⟨host, hlink⟩
  · exact W.getf hx hb hown (hts _ hlink) hi hst q1 (by rw [q3]; exact fun h => by cases h) hv rfl rfl d kk
  · exact va_Wgetf hx hb hown (va_Nw.use (A := args) (by rfl) (hK.2.2.1 _ hlink)) hi hst q1 (by rw [q3]; exact fun h => by cases h) hv rfl rfl d kk
theorem ac_ap (hts : ∀ w ∈ ac_tbl, w.before args s = true) (hK : ac_K G l s) {r : vw_C} (hc : vwCl[ci]? = some r) : ∀ x y, x < r.2.2 → y < r.2.2 → x ≠ y → (G.2.1.2 ci) x ≠ (G.2.1.2 ci) y :=
  va_apart (own := r.1) hts (ac_uws hc) (ac_ty ci) (fun k hk => ac_tyk hc hk) (ac_nmk hc) hK.2.1 hc
theorem ac_S.put {A : Nat → Prop} {H0 H' : Heap} {q j : Nat} (hS : va_S A H0 H locs) (z : H'.size = H.size) (o : ∀ x : Nat, x ≠ q → H'[x]? = H[x]?) (hA : A q) : va_S A H0 H' (locs ++ [⟨q, j⟩]) := by
  refine ⟨by rw [z]; exact hS.1, fun x h1 h2 => (o x (fun e => h2 (by rw [e]; exact hA))).trans (hS.2.1 x h1 h2), fun x hx => ?_⟩
  rcases List.mem_append.mp hx with h1 | h1
  · exact hS.2.2 x h1
  · rw [List.mem_singleton.mp h1]; exact hA
theorem ac_putW (C : ac_Cx G l M p s m args meth c) (hR : ac_R G h H) (hS : va_S (ac_A G) s.heap H locs) (hF : ac_fl M.2.2.1 i ci k b) (hfin : b = true → M.2.2.2.2.1 = "<init>" ∧ (vwCl[ci]?.map fun r => r.1) = some M.2.2.1 ∧ ∃ r : vw_C, vwCl[ci]? = some r ∧ Cond.fieldLink M.2.2.1 i (r.2.1 k).1 (r.2.1 k).2.1 (r.2.1 k).2.2.1 ∈ ac_tbl) (ht : h 0 a 0 = 20 + ci) {x : Int} (hx : ac_fo ci k x)
    (hn : narrow (ac_ty ci k) (ac_fv ci k x) = ac_fv ci k x) (hfit : fits (ac_ty ci k) (ac_fv ci k x) = true) (d : decode M.1 pc = .ok (.putfield i, 3))
    (kk : ∀ (H' : Heap) (locs' : List Loc), ac_R G (up h (100 * (ci + 1) + k) a 0 x) H' → va_S (ac_A G) s.heap H' locs' → W p l e R s m args below meth c H' locs' cells slots Q (F0 m (pc + 3) ls rest)) : W p l e R s m args below meth c H locs cells slots Q (F0 m pc ls (ac_fv ci k x :: ac_v (.inr (.inl a)) :: rest)) := by
  obtain ⟨hx0, hb, hml, hown, hts, hK, hlk, hrt, hnm, -⟩ := C
  obtain ⟨r, hc, hk, hbf, hdec, hlink⟩ := hF
  have hp := hR.bnd (a := a) (k := 0) (j := 0) (by omega)
  have e1 : ac_v (.inr (.inl a)) = .ref (a - 1).toNat := ac_rfr hp.1
  rw [e1]
  have hA : ac_A G (a - 1).toNat := hR.2.2.1 a (by omega) (by have := (ac_cl_len hc).1; omega)
  obtain ⟨⟨cell, q1, q2, q3, q4⟩, -⟩ := hR.2.2.2.1 ci r a hc ht
  obtain ⟨hSl, hfc, kC, hkC, hkind⟩ := hK.2.1.1 ci _ hc
  obtain ⟨cf, kf, fi, f, hi, hsl⟩ := hSl k hk
  have hlays := u_lays hts (ac_uws hc) hk
  have hst := (u_facts hfc hkC hlays hi).1
  have hlt : f.slot < cell.slots.size := by rw [hsl]; exact k2_hasslot (q4 k hk)
  have hap := ac_ap (ci := ci) hts hK hc
  have fin : ∀ H' : Heap, H'[(a - 1).toNat]? = some (cell.setSlot f.slot (ac_fv ci k x)) → H'.size = H.size → (∀ q, q ≠ (a - 1).toNat → H'[q]? = H[q]?) → W p l e R s m args below meth c H' (locs ++ [⟨(a - 1).toNat, f.slot⟩]) cells slots Q (F0 m (pc + 3) ls rest) := by
    intro H' g1 g2 g3
    rw [hsl] at g1 ⊢
    exact kk H' _ (hR.put hc hk ht hx hap q1 g1 g2 g3) (ac_S.put hS g2 g3 hA)
  have hlay := hts _ (ac_uws hc _ (u_in_lay hk))
  unfold u_lay at hlay
  cases hb2 : b with
  | false =>
    rw [if_neg (by rw [hbf, hb2]; decide)] at hlay
    have h6 := u_store hfc hkC hkind hlay hi (ac_tyk hc hk) hn hfit
    rcases hlink with hlink | ⟨host, hlink⟩
    · exact W.putK hx0 hb (f := f) ⟨hown, hts _ hlink, ⟨_, _, _, hi⟩, hst⟩ (by rw [q2]; exact h6) q1 q3 hlt rfl rfl d fin
    · exact va_WputK hx0 hb (f := f) hown (va_Nw.use (A := args) (by rfl) (hK.2.2.1 _ hlink)) hi hst (by rw [q2]; exact h6) q1 q3 hlt rfl rfl d fin
  | true =>
    obtain ⟨f1, f2, r', hc', f3⟩ := hfin hb2
    cases Option.some.inj (hc.symm.trans hc')
    rw [hc] at f2
    have f2 : r.1 = M.2.2.1 := Option.some.inj f2
    rw [if_pos (by rw [hbf, hb2])] at hlay
    have hcf : m.cls = cf := by
      obtain ⟨_, _, c', _, _, _, -, -, hf', -, -, -, hown2, -⟩ := Cond.laysFinal_spec hlay
      have e1 : c' = cf := by have := hi.symm.trans hf'; simp at this; exact this.1.symm
      rw [hdec, f2] at hown2
      rw [← e1]; exact Option.some.inj (hown.symm.trans hown2)
    have h6 := u_fits hfc hkC hkind (Or.inr hlay) hi (ac_tyk hc hk) hn hfit
    exact W.putFinK hx0 hb hown (hts _ f3) hi hst hcf (hnm.trans f1) (by rw [q2]; exact h6) q1 q3 hlt rfl rfl d fin
/-! arrays -/
theorem ac_arr (hK : ac_K G l s) {t : Nat} (t1 : 10 ≤ t) (t2 : t ≤ 17) : ArrOfT s (G.2.2.1 t) (ac_at t) ∧ va_RA s (G.2.2.1 t) (ac_at t) := by
  have key := hK.2.1.2
  have cs : t = 10 ∨ t = 11 ∨ t = 12 ∨ t = 13 ∨ t = 14 ∨ t = 15 ∨ t = 16 ∨ t = 17 := by omega
  rcases cs with rfl | rfl | rfl | rfl | rfl | rfl | rfl | rfl
  · exact key 0 _ rfl
  · exact key 1 _ rfl
  · exact key 2 _ rfl
  · exact key 3 _ rfl
  · exact key 4 _ rfl
  · exact key 5 _ rfl
  · exact key 6 _ rfl
  · exact key 7 _ rfl
/-- the array at a: its cell, of its length, with its contents; writable or constant -/
def ac_isA (h : ac_H) (t : Nat) (a : Int) : Prop := h 0 a 0 = t ∨ (t = 10 ∧ h 0 a 0 = 18)
theorem ac_arrC (C : ac_Cx G l M p s m args meth c) (hR : ac_R G h H) {t : Nat} (t1 : 10 ≤ t) (t2 : t ≤ 17) (ht : ac_isA h t a) :
    0 < a ∧ 0 ≤ h 1 a 0 ∧ h 1 a 0 < 2147483648 ∧ ∃ cell : Cell, H[(a - 1).toNat]? = some cell ∧ s.isArrayOf cell (ac_at t) ∧ cell.vm ≠ .unknown ∧ cell.slots.size = (h 1 a 0).toNat ∧ ∀ j : Int, 0 ≤ j → j < h 1 a 0 → cell.slots[j.toNat]? = some (ac_av t (h t a j)) ∧ ac_ao t (h t a j) := by
  obtain ⟨hx, hb, hml, hown, hts, hK, -⟩ := C
  rcases ht with ht | ⟨rfl, ht⟩
  · have hp := hR.bnd (a := a) (k := 0) (j := 0) (by omega)
    obtain ⟨c1, c2, c3, c4⟩ := hR.2.2.2.2.1 t a t1 t2 ht
    refine ⟨hp.1, c1, c2, _, c3, (ac_arr hK t1 t2).1 _ _, (fun q => by cases q), arrV_size _ _ _, fun j h0 h1 => ⟨?_, c4 j h0 h1⟩⟩
    rw [arrV_read _ _ (by omega)]
    rw [show ((j.toNat : Nat) : Int) = j by omega]
  · have hp := hR.bnd (a := a) (k := 0) (j := 0) (by omega)
    obtain ⟨q, hq, rfl⟩ := hR.2.2.2.2.2.1 a ht
    obtain ⟨c1, c1', c2, c3, c4⟩ := hR.2.2.2.2.2.2 q hq
    obtain ⟨scr, x1, x2, x3, x4, x5⟩ := hK.2.2.2.2.2.1 q hq
    refine ⟨hp.1, by omega, by omega, scr, ?_, x2, x3, by rw [x4, c3]; omega, fun j h0 h1 => ?_⟩
    · rw [show ((q.1 : Int) + 1 - 1).toNat = q.1 by omega, hR.1.2 q.1 c1]; exact x1
    · have e1 : ((j.toNat : Nat) : Int) = j := by omega
      have c5 := c4 j.toNat (by omega)
      rw [e1] at c5
      rw [x5 j.toNat (by omega), c5]
      refine ⟨?_, ?_⟩
      · show _ = some (Value.int _)
        rw [ac_io]
      · exact ac_iir _
end AW
