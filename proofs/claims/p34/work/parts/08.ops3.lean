def getI (f : Nat) (tg : Int) (V : ac_S) : ac_S := fun L S h k n => match S with
  | .inr (.inl a) :: S' => h 0 a 0 = tg ∧ V L (.inl (h f a 0) :: S') h k n
  | _ => False
def getR (f : Nat) (tg : Int) (V : ac_S) : ac_S := fun L S h k n => match S with
  | .inr (.inl a) :: S' => h 0 a 0 = tg ∧ V L (.inr (.inl (h f a 0)) :: S') h k n
  | _ => False
def putI (f : Nat) (tg : Int) (V : ac_S) : ac_S := fun L S h k n => match S with
  | .inl x :: .inr (.inl a) :: S' => h 0 a 0 = tg ∧ V L S' (up h f a 0 x) k n
  | _ => False
def putZ (f : Nat) (tg : Int) (V : ac_S) : ac_S := fun L S h k n => match S with
  | .inl x :: .inr (.inl a) :: S' => (h 0 a 0 = tg ∧ (x = 0 ∨ x = 1)) ∧ V L S' (up h f a 0 x) k n
  | _ => False
def putR (f : Nat) (tg : Int) (V : ac_S) : ac_S := fun L S h k n => match S with
  | .inr (.inl b) :: .inr (.inl a) :: S' => h 0 a 0 = tg ∧ V L S' (up h f a 0 b) k n
  | _ => False
def aLen (V : ac_S) : ac_S := fun L S h k n => match S with
  | .inr (.inl a) :: S' => (10 ≤ h 0 a 0 ∧ h 0 a 0 ≤ 18) ∧ V L (.inl (h 1 a 0) :: S') h k n
  | _ => False
def aldI (V : ac_S) : ac_S := fun L S h k n => match S with
  | .inl i :: .inr (.inl a) :: S' => ((h 0 a 0 = 10 ∨ h 0 a 0 = 18) ∧ 0 ≤ i ∧ i < h 1 a 0) ∧ V L (.inl (h 10 a i) :: S') h k n
  | _ => False
def aldZ (V : ac_S) : ac_S := fun L S h k n => match S with
  | .inl i :: .inr (.inl a) :: S' => (h 0 a 0 = 11 ∧ 0 ≤ i ∧ i < h 1 a 0) ∧ V L (.inl (h 11 a i) :: S') h k n
  | _ => False
def aldJ (V : ac_S) : ac_S := fun L S h k n => match S with
  | .inl i :: .inr (.inl a) :: S' => (h 0 a 0 = 12 ∧ 0 ≤ i ∧ i < h 1 a 0) ∧ V L (.inr (.inr (h 12 a i)) :: S') h k n
  | _ => False
def aldR (t : Nat) (V : ac_S) : ac_S := fun L S h k n => match S with
  | .inl i :: .inr (.inl a) :: S' => (h 0 a 0 = t ∧ 0 ≤ i ∧ i < h 1 a 0) ∧ V L (.inr (.inl (h t a i)) :: S') h k n
  | _ => False
def astI (V : ac_S) : ac_S := fun L S h k n => match S with
  | .inl x :: .inl i :: .inr (.inl a) :: S' => (h 0 a 0 = 10 ∧ 0 ≤ i ∧ i < h 1 a 0) ∧ V L S' (up h 10 a i x) k n
  | _ => False
def astZ (V : ac_S) : ac_S := fun L S h k n => match S with
  | .inl x :: .inl i :: .inr (.inl a) :: S' => (h 0 a 0 = 11 ∧ 0 ≤ i ∧ i < h 1 a 0 ∧ (x = 0 ∨ x = 1)) ∧ V L S' (up h 11 a i x) k n
  | _ => False
def astJ (V : ac_S) : ac_S := fun L S h k n => match S with
  | .inr (.inr x) :: .inl i :: .inr (.inl a) :: S' => (h 0 a 0 = 12 ∧ 0 ≤ i ∧ i < h 1 a 0) ∧ V L S' (up h 12 a i x) k n
  | _ => False
def astR (t : Nat) (tg : Int) (V : ac_S) : ac_S := fun L S h k n => match S with
  | .inr (.inl b) :: .inl i :: .inr (.inl a) :: S' => (h 0 a 0 = t ∧ 0 ≤ i ∧ i < h 1 a 0 ∧ h 0 b 0 = tg) ∧ V L S' (up h t a i b) k n
  | _ => False
section AQ
variable {G : ac_G} {l : Launch} {R : Room} {M : ac_M} {QQ : List Frame → Array Value → State → State → Prop} {V V1 V2 : ac_S}
theorem ac_foI {ci k : Nat} {x : Int} (hr : ac_rk (ac_ty ci k) = false) : ac_fo ci k x ↔ ac_irg x := by unfold ac_fo; rw [hr]; simp
theorem ac_foR {ci k : Nat} {x : Int} (hr : ac_rk (ac_ty ci k) = true) : ac_fo ci k x ↔ 0 ≤ x := by unfold ac_fo; rw [hr]; simp
theorem ac_fvI {ci k : Nat} {x : Int} (hr : ac_rk (ac_ty ci k) = false) : ac_fv ci k x = ac_v (.inl x) := by unfold ac_fv; rw [hr]; simp [ac_v]
theorem ac_fvR {ci k : Nat} {x : Int} (hr : ac_rk (ac_ty ci k) = true) : ac_fv ci k x = ac_v (.inr (.inl x)) := by unfold ac_fv; rw [hr]; simp [ac_v]
theorem ac_fok {h : ac_H} {H : Heap} {ci k : Nat} {a : Int} {own : String} {i : Nat} {b : Bool} (hR : ac_R G h H) (hF : ac_fl own i ci k b) (ht : h 0 a 0 = 20 + ci) : ac_fo ci k (h (100 * (ci + 1) + k) a 0) := by
  obtain ⟨r, hc, hk, -⟩ := hF
  exact (hR.2.2.2.1 ci r a hc ht).2 k hk
theorem s_getI (pc : Nat) {i ci k f : Nat} {tg : Int} {b : Bool} (hF : ac_fl M.2.2.1 i ci k b) (hr : ac_rk (ac_ty ci k) = false) (hf : 100 * (ci + 1) + k = f) (hg : (20 : Int) + ci = tg) (d : decode M.1 pc = .ok (.getfield i, 3)) (hV : ac_Snd G l R M QQ (pc + 3) V) : ac_Snd G l R M QQ pc (getI f tg V) := by
  subst hf; subst hg
  intro p e s m args below meth c C L S h kk n hv H locs ls hR hS hl hs
  match S, hv, hs with
  | .inr (.inl a) :: S', ⟨ht, hv⟩, hs =>
    obtain ⟨-, h2⟩ := List.forall_mem_cons.mp hs
    have K := hV p e s m args below meth c C _ _ _ _ _ hv H locs ls hR hS hl (ac_cons (v := .inl (h (100 * (ci + 1) + k) a 0)) ((ac_foI hr).mp (ac_fok hR hF ht)) h2)
    rw [List.map_cons, ← ac_fvI hr] at K
    exact ac_getW C hR hF ht d K
theorem s_getR (pc : Nat) {i ci k f : Nat} {tg : Int} {b : Bool} (hF : ac_fl M.2.2.1 i ci k b) (hr : ac_rk (ac_ty ci k) = true) (hf : 100 * (ci + 1) + k = f) (hg : (20 : Int) + ci = tg) (d : decode M.1 pc = .ok (.getfield i, 3)) (hV : ac_Snd G l R M QQ (pc + 3) V) : ac_Snd G l R M QQ pc (getR f tg V) := by
  subst hf; subst hg
  intro p e s m args below meth c C L S h kk n hv H locs ls hR hS hl hs
  match S, hv, hs with
  | .inr (.inl a) :: S', ⟨ht, hv⟩, hs =>
    obtain ⟨-, h2⟩ := List.forall_mem_cons.mp hs
    have K := hV p e s m args below meth c C _ _ _ _ _ hv H locs ls hR hS hl (ac_cons (v := .inr (.inl (h (100 * (ci + 1) + k) a 0))) ((ac_foR hr).mp (ac_fok hR hF ht)) h2)
    rw [List.map_cons, ← ac_fvR hr] at K
    exact ac_getW C hR hF ht d K
/-- what a final field's store wants: the constructor of its own class -/
def ac_fin (M : ac_M) (i ci k : Nat) (b : Bool) : Prop := b = true → M.2.2.2.2.1 = "<init>" ∧ (vwCl[ci]?.map fun r => r.1) = some M.2.2.1 ∧ ∃ r : vw_C, vwCl[ci]? = some r ∧ Cond.fieldLink M.2.2.1 i (r.2.1 k).1 (r.2.1 k).2.1 (r.2.1 k).2.2.1 ∈ ac_tbl
theorem s_putI (pc : Nat) {i ci k f : Nat} {tg : Int} {b : Bool} (hF : ac_fl M.2.2.1 i ci k b) (hfin : ac_fin M i ci k b) (hr : ac_ty ci k = .int) (hf : 100 * (ci + 1) + k = f) (hg : (20 : Int) + ci = tg) (d : decode M.1 pc = .ok (.putfield i, 3)) (hV : ac_Snd G l R M QQ (pc + 3) V) : ac_Snd G l R M QQ pc (putI f tg V) := by
  subst hf; subst hg
  intro p e s m args below meth c C L S h kk n hv H locs ls hR hS hl hs
  match S, hv, hs with
  | .inl x :: .inr (.inl a) :: S', ⟨ht, hv⟩, hs =>
    obtain ⟨h1, h2⟩ := List.forall_mem_cons.mp hs
    obtain ⟨h3, h4⟩ := List.forall_mem_cons.mp h2
    have hr2 : ac_rk (ac_ty ci k) = false := by rw [hr]; rfl
    rw [List.map_cons, List.map_cons, ← ac_fvI hr2]
    refine ac_putW C hR hS hF hfin ht ((ac_foI hr2).mpr h1) (by rw [hr, ac_fvI hr2]; rfl) (by rw [hr, ac_fvI hr2]; rfl) d fun H' locs' g1 g2 => ?_
    exact hV p e s m args below meth c C _ _ _ _ _ hv H' locs' ls g1 g2 hl h4
theorem s_putZ (pc : Nat) {i ci k f : Nat} {tg : Int} {b : Bool} (hF : ac_fl M.2.2.1 i ci k b) (hfin : ac_fin M i ci k b) (hr : ac_ty ci k = .boolean) (hf : 100 * (ci + 1) + k = f) (hg : (20 : Int) + ci = tg) (d : decode M.1 pc = .ok (.putfield i, 3)) (hV : ac_Snd G l R M QQ (pc + 3) V) : ac_Snd G l R M QQ pc (putZ f tg V) := by
  subst hf; subst hg
  intro p e s m args below meth c C L S h kk n hv H locs ls hR hS hl hs
  match S, hv, hs with
  | .inl x :: .inr (.inl a) :: S', ⟨⟨ht, hz⟩, hv⟩, hs =>
    obtain ⟨h1, h2⟩ := List.forall_mem_cons.mp hs
    obtain ⟨h3, h4⟩ := List.forall_mem_cons.mp h2
    have hr2 : ac_rk (ac_ty ci k) = false := by rw [hr]; rfl
    rw [List.map_cons, List.map_cons, ← ac_fvI hr2]
    refine ac_putW C hR hS hF hfin ht ((ac_foI hr2).mpr h1) (by rw [hr, ac_fvI hr2]; rcases hz with rfl | rfl <;> rfl) (by rw [hr, ac_fvI hr2]; rcases hz with rfl | rfl <;> rfl) d fun H' locs' g1 g2 => ?_
    exact hV p e s m args below meth c C _ _ _ _ _ hv H' locs' ls g1 g2 hl h4
theorem s_putR (pc : Nat) {i ci k f : Nat} {tg : Int} {b : Bool} (hF : ac_fl M.2.2.1 i ci k b) (hfin : ac_fin M i ci k b) (hr : ac_rk (ac_ty ci k) = true) (hn : ∀ q : Nat, (narrow (ac_ty ci k) .null = .null ∧ fits (ac_ty ci k) .null = true) ∧ narrow (ac_ty ci k) (.ref q) = .ref q ∧ fits (ac_ty ci k) (.ref q) = true) (hf : 100 * (ci + 1) + k = f) (hg : (20 : Int) + ci = tg) (d : decode M.1 pc = .ok (.putfield i, 3)) (hV : ac_Snd G l R M QQ (pc + 3) V) : ac_Snd G l R M QQ pc (putR f tg V) := by
  subst hf; subst hg
  intro p e s m args below meth c C L S h kk n hv H locs ls hR hS hl hs
  match S, hv, hs with
  | .inr (.inl x) :: .inr (.inl a) :: S', ⟨ht, hv⟩, hs =>
    obtain ⟨h1, h2⟩ := List.forall_mem_cons.mp hs
    obtain ⟨h3, h4⟩ := List.forall_mem_cons.mp h2
    rw [List.map_cons, List.map_cons, ← ac_fvR (k := k) (ci := ci) (x := x) hr]
    refine ac_putW C hR hS hF hfin ht ((ac_foR hr).mpr h1) ?_ ?_ d fun H' locs' g1 g2 => ?_
    · rw [ac_fvR hr]
      unfold ac_v ac_rf
      dsimp only
      split
      · exact (hn 0).1.1
      · exact (hn _).2.1
    · rw [ac_fvR hr]
      unfold ac_v ac_rf
      dsimp only
      split
      · exact (hn 0).1.2
      · exact (hn _).2.2
    exact hV p e s m args below meth c C _ _ _ _ _ hv H' locs' ls g1 g2 hl h4
/-! arrays -/
theorem s_alen (pc : Nat) (d : decode M.1 pc = .ok (.arraylength, 1)) (hV : ac_Snd G l R M QQ (pc + 1) V) : ac_Snd G l R M QQ pc (aLen V) := by
  intro p e s m args below meth c C L S h kk n hv H locs ls hR hS hl hs
  match S, hv, hs with
  | .inr (.inl a) :: S', ⟨ht, hv⟩, hs =>
    obtain ⟨-, h2⟩ := List.forall_mem_cons.mp hs
    obtain ⟨t, t1, t2, ht⟩ : ∃ t, 10 ≤ t ∧ t ≤ 17 ∧ ac_isA h t a := by
      by_cases q : h 0 a 0 = 18
      · exact ⟨10, by omega, by omega, Or.inr ⟨rfl, q⟩⟩
      · exact ⟨(h 0 a 0).toNat, by omega, by omega, Or.inl (by omega)⟩
    obtain ⟨a0, n0, n1, cell, x1, x2, x3, x4, -⟩ := ac_arrC C hR t1 t2 ht
    have e1 : ac_v (.inr (.inl a)) = .ref (a - 1).toNat := ac_rfr a0
    rw [List.map_cons, e1]
    have hi : ac_irg (h 1 a 0) := ⟨by omega, by omega⟩
    refine W.alen C.1 C.2.1 x1 x2 (n := Int32.ofInt (h 1 a 0)) ?_ rfl rfl d (hV p e s m args below meth c C _ _ _ _ _ hv H locs ls hR hS hl (ac_cons (v := .inl (h 1 a 0)) hi h2))
    rw [x4]
    apply Int32.toInt_inj.mp
    rw [ac_ti hi]
    have := nI_toInt (n := (h 1 a 0).toNat) (by omega)
    show (nI (h 1 a 0).toNat).toInt = _
    omega
theorem ac_nin {cell : Cell} {i n : Int} (hi : ac_irg i) (h0 : 0 ≤ i) (h1 : i < n) (hz : cell.slots.size = n.toNat) : ¬ (Int32.ofInt i < 0 ∨ cell.slots.size ≤ (Int32.ofInt i).toNatClampNeg) := by
  rw [hz]
  exact ac_in hi h0 h1
theorem s_iald (pc : Nat) (d : decode M.1 pc = .ok (.iaload, 1)) (hV : ac_Snd G l R M QQ (pc + 1) V) : ac_Snd G l R M QQ pc (aldI V) := by
  intro p e s m args below meth c C L S h kk n hv H locs ls hR hS hl hs
  match S, hv, hs with
  | .inl i :: .inr (.inl a) :: S', ⟨⟨ht, h0, h1⟩, hv⟩, hs =>
    obtain ⟨hi, h2⟩ := List.forall_mem_cons.mp hs
    obtain ⟨-, h3⟩ := List.forall_mem_cons.mp h2
    obtain ⟨a0, n0, n1, cell, x1, x2, x3, x4, x5⟩ := ac_arrC C hR (t := 10) (by omega) (by omega) (ht.imp id (fun q => ⟨rfl, q⟩))
    obtain ⟨y1, y2⟩ := x5 i h0 h1
    have e1 : ac_v (.inr (.inl a)) = .ref (a - 1).toNat := ac_rfr a0
    rw [List.map_cons, List.map_cons, e1]
    exact W.iald C.1 C.2.1 x1 x2 x3 (ac_nin hi h0 h1 x4) (by rw [ac_cl hi]; exact y1) rfl rfl d (hV p e s m args below meth c C _ _ _ _ _ hv H locs ls hR hS hl (ac_cons (v := .inl (h 10 a i)) y2 h3))
theorem ac_ref {t : Nat} (t1 : 13 ≤ t) (t2 : t ≤ 17) : (ac_at t).isReference = true ∧ (∀ x, ac_av t x = ac_rf x) ∧ ∀ x, ac_ao t x ↔ 0 ≤ x := by
  refine ⟨?_, fun x => ?_, fun x => ?_⟩
  · have cs : t = 13 ∨ t = 14 ∨ t = 15 ∨ t = 16 ∨ t = 17 := by omega
    rcases cs with rfl | rfl | rfl | rfl | rfl <;> rfl
  · unfold ac_av; rw [if_neg (by omega), if_neg (by omega)]
  · unfold ac_ao; rw [if_neg (by omega), if_neg (by omega)]
theorem s_aald (pc : Nat) {t : Nat} (t1 : 13 ≤ t) (t2 : t ≤ 17) (d : decode M.1 pc = .ok (.aaload, 1)) (hV : ac_Snd G l R M QQ (pc + 1) V) : ac_Snd G l R M QQ pc (aldR t V) := by
  intro p e s m args below meth c C L S h kk n hv H locs ls hR hS hl hs
  match S, hv, hs with
  | .inl i :: .inr (.inl a) :: S', ⟨⟨ht, h0, h1⟩, hv⟩, hs =>
    obtain ⟨hi, h2⟩ := List.forall_mem_cons.mp hs
    obtain ⟨-, h3⟩ := List.forall_mem_cons.mp h2
    obtain ⟨a0, n0, n1, cell, x1, x2, x3, x4, x5⟩ := ac_arrC C hR (t := t) (by omega) (by omega) (Or.inl ht)
    obtain ⟨y1, y2⟩ := x5 i h0 h1
    obtain ⟨r1, r2, r3⟩ := ac_ref t1 t2
    rw [r2] at y1
    rw [r3] at y2
    have e1 : ac_v (.inr (.inl a)) = .ref (a - 1).toNat := ac_rfr a0
    rw [List.map_cons, List.map_cons, e1]
    exact W.aald C.1 C.2.1 x1 x2 r1 x3 (ac_nin hi h0 h1 x4) (by rw [ac_cl hi]; exact y1) rfl rfl d (hV p e s m args below meth c C _ _ _ _ _ hv H locs ls hR hS hl (ac_cons (v := .inr (.inl (h t a i))) y2 h3))
theorem s_iast (pc : Nat) (d : decode M.1 pc = .ok (.iastore, 1)) (hV : ac_Snd G l R M QQ (pc + 1) V) : ac_Snd G l R M QQ pc (astI V) := by
  intro p e s m args below meth c C L S h kk n hv H locs ls hR hS hl hs
  match S, hv, hs with
  | .inl x :: .inl i :: .inr (.inl a) :: S', ⟨⟨ht, h0, h1⟩, hv⟩, hs =>
    obtain ⟨hxx, h2⟩ := List.forall_mem_cons.mp hs
    obtain ⟨hi, h3⟩ := List.forall_mem_cons.mp h2
    obtain ⟨-, h4⟩ := List.forall_mem_cons.mp h3
    obtain ⟨a0, n0, n1, cell, x1, x2, x3, x4, x5⟩ := ac_arrC C hR (t := 10) (by omega) (by omega) (Or.inl ht)
    have e1 : ac_v (.inr (.inl a)) = .ref (a - 1).toNat := ac_rfr a0
    rw [List.map_cons, List.map_cons, List.map_cons, e1]
    refine W.iast C.1 C.2.1 x1 x2 x3 (ac_nin hi h0 h1 x4) rfl rfl d fun H' g1 g2 g3 => ?_
    rw [ac_cl hi] at g1
    exact hV p e s m args below meth c C _ _ _ _ _ hv H' _ ls (hR.ast (t := 10) (by omega) (by omega) ht h0 h1 hxx x1 g1 g2 g3) (ac_S.put hS g2 g3 (hR.2.2.1 a (by omega) (by omega))) hl h4
theorem s_aast (pc : Nat) {t ci : Nat} {r : vw_C} {tg : Int} (t1 : 13 ≤ t) (t2 : t ≤ 17) (hc : vwCl[ci]? = some r) (hty : ac_at t = .object r.1) (hg : (20 : Int) + ci = tg) (d : decode M.1 pc = .ok (.aastore, 1)) (hV : ac_Snd G l R M QQ (pc + 1) V) : ac_Snd G l R M QQ pc (astR t tg V) := by
  subst hg
  intro p e s m args below meth c C L S h kk n hv H locs ls hR hS hl hs
  match S, hv, hs with
  | .inr (.inl b) :: .inl i :: .inr (.inl a) :: S', ⟨⟨ht, h0, h1, hb⟩, hv⟩, hs =>
    obtain ⟨hxx, h2⟩ := List.forall_mem_cons.mp hs
    obtain ⟨hi, h3⟩ := List.forall_mem_cons.mp h2
    obtain ⟨-, h4⟩ := List.forall_mem_cons.mp h3
    obtain ⟨r1, r2, r3⟩ := ac_ref t1 t2
    obtain ⟨c1, c2, c3, c4⟩ := hR.2.2.2.2.1 t a (by omega) (by omega) ht
    have hp := hR.bnd (a := a) (k := 0) (j := 0) (by omega)
    have hpb := hR.bnd (a := b) (k := 0) (j := 0) (by omega)
    have e1 : ac_v (.inr (.inl a)) = .ref (a - 1).toNat := ac_rfr hp.1
    have e2 : ac_v (.inr (.inl b)) = .ref (b - 1).toNat := ac_rfr hpb.1
    rw [List.map_cons, List.map_cons, List.map_cons, e1, e2]
    obtain ⟨⟨cellV, y1, y2, y3, -⟩, -⟩ := hR.2.2.2.1 ci r b hc hb
    have hK := C.2.2.2.2.2.1
    have hcls := (hK.2.1.1 ci r hc).2
    have hra := (ac_arr hK (t := t) (by omega) (by omega)).2
    rw [hty] at hra
    obtain ⟨kA, comp, k1, k2, k3, -⟩ := hra
    have hcomp : comp = G.2.1.1 ci := Option.some.inj (k3.symm.trans hcls.1)
    subst hcomp
    obtain ⟨kC, hkC, -⟩ := hcls.2
    have hlt : i.toNat < (h 1 a 0).toNat := by omega
    have hn0 : ¬ Int32.ofInt i < 0 := by rw [← ac_0, ac_lt hi ac_z]; omega
    refine W.aast C.1 C.2.1 c3 (fun q h => by cases h) (fun h => by cases h) k1 k2 rfl hkC ⟨hn0, by rw [ac_cl hi, arrV_size]; exact hlt⟩ y1 (fun q h => by rw [y3] at h; cases h) (by rw [y2]; exact hkC) (by rw [y2]; exact va_assign hcls) rfl rfl d fun H' g1 g2 g3 => ?_
    rw [ac_cl hi] at g1
    have e3 : (.ref (b - 1).toNat : Value) = ac_av t b := by rw [r2, ac_rfr hpb.1]
    rw [e3] at g1
    exact hV p e s m args below meth c C _ _ _ _ _ hv H' _ ls (hR.ast (t := t) (by omega) (by omega) ht h0 h1 ((r3 b).mpr hxx) c3 g1 g2 g3) (ac_S.put hS g2 g3 (hR.2.2.1 a (by omega) (by omega))) hl h4
end AQ
