def ac_cs : List ac_V → Nat
  | [] => 0
  | .inl _ :: r => 1 + ac_cs r
  | .inr (.inl _) :: r => 1 + ac_cs r
  | .inr (.inr _) :: r => 2 + ac_cs r
theorem ac_cs_sum : ∀ S : List ac_V, ((S.map ac_v).map fun v => v.category).sum = ac_cs S
  | [] => rfl
  | .inl x :: r => by rw [List.map_cons, List.map_cons, List.sum_cons, ac_cs_sum r]; rfl
  | .inr (.inl a) :: r => by
    rw [List.map_cons, List.map_cons, List.sum_cons, ac_cs_sum r, ac_cat1 (.inr (.inl a)) (fun _ q => by cases q)]; rfl
  | .inr (.inr x) :: r => by rw [List.map_cons, List.map_cons, List.sum_cons, ac_cs_sum r]; rfl
def nwO (tg : Int) (N mc ms : Nat) (V : ac_S) : ac_S := fun L S h k n => (k + 1 ≤ mc ∧ n + N ≤ ms) ∧ ∀ a : Int, ac_new h a → V L (.inr (.inl a) :: S) (up h 0 a 0 tg) (k + 1) (n + N)
def nwA (t : Nat) (mc ms : Nat) (V : ac_S) : ac_S := fun L S h k n => match S with
  | .inl z :: S' => (0 ≤ z ∧ z ≤ 100000 ∧ k + 1 ≤ mc ∧ n + z.toNat ≤ ms) ∧ ∀ a : Int, ac_new h a → V L (.inr (.inl a) :: S') (up (up h 0 a 0 t) 1 a 0 z) (k + 1) (n + z.toNat)
  | _ => False
def ac_tbz (w : Nat) (j : Int) : Int := match w with
  | 0 => if j = 0 then 3 else if j = 1 then 4 else if j = 2 then 3 else if j = 3 then 3 else if j = 4 then 10 else 1
  | 1 => if j = 2 then 1 else if j = 4 then 1 else 0
  | _ => if j = 2 then 9 else if j = 4 then 50 else if j = 5 then 9 else 20
def ac_st (w : Nat) (h : ac_H) (a : Int) : Prop := 0 < a ∧ h 0 a 0 = 18 ∧ h 1 a 0 = 6 ∧ ∀ j : Int, 0 ≤ j → j < 6 → h 10 a j = ac_tbz w j
def gsT (w : Nat) (V : ac_S) : ac_S := fun L S h k n => ∀ a : Int, ac_st w h a → V L (.inr (.inl a) :: S) h k n
def oMx (mc ms : Nat) (V : ac_S) : ac_S := fun L S h k n => match S with
  | .inl y :: .inl x :: S' => (ac_cs S' ≤ 8 ∧ k ≤ mc ∧ n ≤ ms) ∧ V L (.inl (if x < y then y else x) :: S') h k n
  | _ => False
def oMn (mc ms : Nat) (V : ac_S) : ac_S := fun L S h k n => match S with
  | .inl y :: .inl x :: S' => (ac_cs S' ≤ 8 ∧ k ≤ mc ∧ n ≤ ms) ∧ V L (.inl (if y < x then y else x) :: S') h k n
  | _ => False
def oObj (V : ac_S) : ac_S := fun L S h k n => match S with
  | .inr (.inl a) :: S' => (0 < a ∧ ac_cs S' ≤ 8) ∧ V L S' h k n
  | _ => False
def ac_cpy (h : ac_H) (src sp dst dp n : Int) : ac_H := fun k' a' j => if k' = 10 ∧ a' = dst ∧ dp ≤ j ∧ j < dp + n then h 10 src (sp + (j - dp)) else h k' a' j
def oCpy (V : ac_S) : ac_S := fun L S h k n => match S with
  | .inl z :: .inl dp :: .inr (.inl b) :: .inl sp :: .inr (.inl a) :: S' => ((h 0 a 0 = 10 ∨ h 0 a 0 = 18) ∧ h 0 b 0 = 10 ∧ 0 ≤ sp ∧ 0 ≤ dp ∧ 0 ≤ z ∧ sp + z ≤ h 1 a 0 ∧ dp + z ≤ h 1 b 0 ∧ ac_cs S' ≤ 8) ∧ V L S' (ac_cpy h a sp b dp z) k n
  | _ => False
def ac_cln (h : ac_H) (a b : Int) : ac_H := fun k' a' j => if a' = b then h k' a j else h k' a' j
def oCln (mc ms : Nat) (V : ac_S) : ac_S := fun L S h k n => match S with
  | .inr (.inl a) :: S' => (h 0 a 0 = 10 ∧ k + 1 ≤ mc ∧ n + (h 1 a 0).toNat ≤ ms ∧ ac_cs S' ≤ 8) ∧ ∀ b : Int, ac_new h b → V L (.inr (.inl b) :: S') (ac_cln h a b) (k + 1) (n + (h 1 a 0).toNat)
  | _ => False
def oCst (V : ac_S) : ac_S := fun L S h k n => match S with
  | .inr (.inl a) :: S' => h 0 a 0 = 10 ∧ V L (.inr (.inl a) :: S') h k n
  | _ => False
/-- the static w of RuleCrypts by entry i of class own's pool -/
def ac_snm (w : Nat) : String := match w with | 0 => "FIRST_NUMBER" | 1 => "LEAST_NUMBER" | _ => "MOST_NUMBER"
def ac_gs (own : String) (i w : Nat) : Prop := Cond.fieldLink own i "RuleCrypts" (ac_snm w) "[I" ∈ ac_tbl ∨ ∃ host, Cond.fieldLinkNest own i "RuleCrypts" (ac_snm w) "[I" host ∈ tables_1.filter ac_nest
section AR4
variable {G : ac_G} {l : Launch} {R : Room} {M : ac_M} {QQ : List Frame → Array Value → State → State → Prop} {V V1 V2 : ac_S}
theorem ac_vs (n : Nat) : ac_v (.inr (.inl ((n : Int) + 1))) = .ref n := by
  have e : ((n : Int) + 1 - 1).toNat = n := by omega
  have e2 : ac_v (.inr (.inl ((n : Int) + 1))) = .ref ((n : Int) + 1 - 1).toNat := ac_rfr (by omega)
  rw [e2, e]
theorem ac_set1 (H : Heap) (q : Nat) (x : Cell) (hl : q < H.size) : (H.setIfInBounds q x)[q]? = some x := by simp [Array.getElem?_setIfInBounds, hl]
theorem ac_set2 (H : Heap) (q q' : Nat) (x : Cell) (hl : q' ≠ q) : (H.setIfInBounds q x)[q']? = H[q']? := by simp [Array.getElem?_setIfInBounds, Ne.symm hl]
theorem ac_dfv {ci k : Nat} (h : ac_ty ci k = .int ∨ ac_ty ci k = .boolean ∨ (∃ n, ac_ty ci k = .object n) ∨ ∃ t, ac_ty ci k = .array t) : defaultValue (ac_ty ci k) = ac_fv ci k 0 := by
  unfold ac_fv
  rcases h with e | e | ⟨n, e⟩ | ⟨n, e⟩ <;> rw [e] <;> rfl
theorem ac_tyc0 : ∀ ci, ci < 9 → ∀ k, k < 40 → (match ac_ty ci k with | .int => true | .boolean => true | .object _ => true | .array _ => true | _ => false) = true := by decide +kernel
theorem ac_tyc {ci k : Nat} (h1 : ci < 9) (h2 : k < 40) : ac_ty ci k = .int ∨ ac_ty ci k = .boolean ∨ (∃ n, ac_ty ci k = .object n) ∨ ∃ t, ac_ty ci k = .array t := by
  have h := ac_tyc0 ci h1 k h2
  cases e : ac_ty ci k <;> rw [e] at h <;> simp at h ⊢
theorem ac_S.new {A : Nat → Prop} {H0 H H' : Heap} {locs : List Loc} (hS : va_S A H0 H locs) (z : H.size ≤ H'.size) (o : ∀ x : Nat, x < H.size → H'[x]? = H[x]?) : va_S A H0 H' locs :=
  ⟨Nat.le_trans hS.1 z, fun x h1 h2 => (o x (Nat.lt_of_lt_of_le h1 hS.1)).trans (hS.2.1 x h1 h2), hS.2.2⟩
theorem s_new (pc : Nat) {i ci N mc ms : Nat} {r : vw_C} {tg : Int} (hc : vwCl[ci]? = some r) (hN : r.2.2 = N) (hg : (20 : Int) + ci = tg) (hw1 : Cond.classLink M.2.2.1 i r.1 ∈ ac_tbl) (hw2 : Cond.instantiable r.1 r.2.2 ∈ ac_tbl) (hw3 : Cond.initialized r.1 ∈ ac_tbl) (hmc : mc ≤ R.cells) (hms : ms ≤ R.slots)
    (d : decode M.1 pc = .ok (.new i, 3)) (hV : ac_Snd G l R M QQ (pc + 3) V) : ac_Snd G l R M QQ pc (nwO tg N mc ms V) := by
  subst hg; subst hN
  intro p e s m args below meth c C L S h k n hv H locs ls hR hS hl hs
  obtain ⟨⟨m1, m2⟩, hv⟩ := hv
  obtain ⟨hx, hb, hml, hown, hts, hK, -⟩ := id C
  have hKn := hK.2.1.1 ci _ hc
  obtain ⟨q1, q2⟩ := ac_cl_len hc
  refine W.newcK hx hb hown (hts _ hw1) (hts _ hw2) (hts _ hw3) rfl d (by omega) (by omega) hKn.2.1 rfl fun H1 kC hkC e1 z1 o1 => ?_
  have hb2 := (u_born (ac_ty ci) hts (ac_uws hc) hKn hkC e1 (fun k hk => ac_tyk hc hk)).to (V' := fun k => ac_fv ci k 0) (fun k hk => ac_dfv (ac_tyc q1 (by omega)))
  have K := hV p e s m args below meth c C _ _ _ _ _ (hv ((H.size : Int) + 1) hR.fresh) H1 locs ls (hR.newO hc z1 o1 hb2) (ac_S.new hS (by omega) o1) hl (ac_cons (v := .inr (.inl ((H.size : Int) + 1))) (by show (0 : Int) ≤ _; omega) hs)
  have e2 : ac_v (.inr (.inl ((H.size : Int) + 1))) = .ref H.size := ac_vs H.size
  rw [List.map_cons, e2] at K
  exact K
theorem ac_av0 (t : Nat) : ac_ao t 0 := by
  unfold ac_ao
  split
  · exact ⟨by omega, by omega⟩
  · split
    · exact ⟨by omega, by omega⟩
    · exact Int.le_refl 0
theorem ac_newA0 {h : ac_H} {H H1 : Heap} {t : Nat} {z : Int} (hR : ac_R G h H) (t1 : 10 ≤ t) (t2 : t ≤ 17) (z0 : 0 ≤ z) (z2 : z ≤ 100000) (hz : H1.size = H.size + 1) (ho : ∀ q : Nat, q < H.size → H1[q]? = H[q]?)
    (hA : H1[H.size]? = some (arrV (G.2.2.1 t) z.toNat (fun _ => ac_av t 0))) : ac_R G (up (up h 0 ((H.size : Int) + 1) 0 t) 1 ((H.size : Int) + 1) 0 z) H1 := by
  have hN := hR.fresh
  have gt : ∀ j : Int, up (up h 0 ((H.size : Int) + 1) 0 t) 1 ((H.size : Int) + 1) 0 z t ((H.size : Int) + 1) j = 0 := fun j => by rw [up_k (by omega), up_k (by omega), hN.2]
  refine hR.newA t1 t2 z0 (by omega) hz ho (by rw [up_k (by omega), up_self]) (by rw [up_self]) (fun k a j e => by rw [up_a e, up_a e]) (fun j _ _ => by rw [gt]; exact ac_av0 t) ?_
  rw [hA]
  congr 2
  funext j
  rw [gt]
theorem s_newa (pc : Nat) {at' : ArrayType} {t mc ms : Nat} (t1 : 10 ≤ t) (t2 : t ≤ 12) (hty : newarray.typeOf at' = ac_at t) (hw : Cond.arrayClass (ac_at t) ∈ ac_tbl) (hmc : mc ≤ R.cells) (hms : ms ≤ R.slots)
    (d : decode M.1 pc = .ok (.newarray at', 2)) (hV : ac_Snd G l R M QQ (pc + 2) V) : ac_Snd G l R M QQ pc (nwA t mc ms V) := by
  intro p e s m args below meth c C L S h k n hv H locs ls hR hS hl hs
  match S, hv, hs with
  | .inl z :: S', ⟨⟨z0, z2, m1, m2⟩, hv⟩, hs =>
    obtain ⟨hz1, hs1⟩ := List.forall_mem_cons.mp hs
    obtain ⟨hx, hb, hml, hown, hts, hK, -⟩ := id C
    have hcb : componentBytes (newarray.typeOf at') ≤ 8 := by
      rw [hty]
      have cs : t = 10 ∨ t = 11 ∨ t = 12 := by omega
      rcases cs with rfl | rfl | rfl <;> decide
    have hnn : ¬ Int32.ofInt z < 0 := by rw [← ac_0, ac_lt hz1 ac_z]; omega
    have hby : z.toNat * componentBytes (newarray.typeOf at') ≤ 536870912 := Nat.le_trans (Nat.mul_le_mul (show z.toNat ≤ 100000 by omega) hcb) (by omega)
    refine va_newaK hx hb (by rw [hty]; exact hts _ hw) rfl d rfl hnn (ac_cl hz1) hby (by omega) (by omega) rfl fun H1 cA e1 z1 o1 hAr hNm => ?_
    have hcA : cA = G.2.2.1 t := by
      have h2 := (ac_arr hK (t := t) t1 (by omega)).2
      rw [hty] at hNm
      have cs : t = 10 ∨ t = 11 ∨ t = 12 := by omega
      rcases cs with rfl | rfl | rfl <;> exact Option.some.inj (hNm.symm.trans h2)
    subst hcA
    have hdv : defaultValue (newarray.typeOf at') = ac_av t 0 := by
      rw [hty]
      have cs : t = 10 ∨ t = 11 ∨ t = 12 := by omega
      rcases cs with rfl | rfl | rfl <;> rfl
    rw [hdv] at e1
    have K := hV p e s m args below meth c C _ _ _ _ _ (hv ((H.size : Int) + 1) hR.fresh) H1 locs ls (ac_newA0 hR t1 (by omega) z0 z2 z1 o1 e1) (ac_S.new hS (by omega) o1) hl (ac_cons (v := .inr (.inl ((H.size : Int) + 1))) (by show (0 : Int) ≤ _; omega) hs1)
    have e2 : ac_v (.inr (.inl ((H.size : Int) + 1))) = .ref H.size := ac_vs H.size
    rw [List.map_cons, e2] at K
    exact K
theorem s_anewa (pc : Nat) {i t mc ms : Nat} {cn : String} (t1 : 13 ≤ t) (t2 : t ≤ 17) (hty : ac_at t = .object cn) (hw1 : Cond.classLink M.2.2.1 i cn ∈ ac_tbl) (hw2 : Cond.arrayOver (.object cn) ∈ tables_1) (hmc : mc ≤ R.cells) (hms : ms ≤ R.slots)
    (d : decode M.1 pc = .ok (.anewarray i, 3)) (hV : ac_Snd G l R M QQ (pc + 3) V) : ac_Snd G l R M QQ pc (nwA t mc ms V) := by
  intro p e s m args below meth c C L S h k n hv H locs ls hR hS hl hs
  match S, hv, hs with
  | .inl z :: S', ⟨⟨z0, z2, m1, m2⟩, hv⟩, hs =>
    obtain ⟨hz1, hs1⟩ := List.forall_mem_cons.mp hs
    obtain ⟨hx, hb, hml, hown, hts, hK, -⟩ := id C
    have hnn : ¬ Int32.ofInt z < 0 := by rw [← ac_0, ac_lt hz1 ac_z]; omega
    refine W.anew hx hb hown (hts _ hw1) (va_AO.use (hK.2.2.2.2.1 _ hw2)) rfl d rfl hnn (by rw [ac_cl hz1]; omega) (by omega) (by rw [ac_cl hz1]; omega) fun cA kA comp f1 f2 f3 f4 => ?_
    rw [ac_cl hz1]
    generalize hH1 : H.push ({ cls := cA, slots := Array.replicate z.toNat .null, vm := .none } : Cell) = H1
    have z1 : H1.size = H.size + 1 := by rw [← hH1, Array.size_push]
    have e1 : H1[H.size]? = some (arrV cA z.toNat (fun _ => .null)) := by rw [← hH1, Array.getElem?_push_size, ← arrV_new]
    have o1 : ∀ q : Nat, q < H.size → H1[q]? = H[q]? := fun q hq => by rw [← hH1, Array.getElem?_push, if_neg (Nat.ne_of_lt hq)]
    have hcA : cA = G.2.2.1 t := by
      have h2 := (ac_arr hK (t := t) (by omega) t2).2
      rw [hty] at h2
      obtain ⟨kA', comp', -, -, -, h5⟩ := h2
      exact Option.some.inj (f1.symm.trans h5)
    subst hcA
    have hdv : (.null : Value) = ac_av t 0 := by rw [(ac_ref t1 t2).2.1]; rfl
    rw [hdv] at e1
    have K := hV p e s m args below meth c C _ _ _ _ _ (hv ((H.size : Int) + 1) hR.fresh) H1 locs ls (ac_newA0 hR (by omega) t2 z0 z2 z1 o1 e1) (ac_S.new hS (by omega) o1) hl (ac_cons (v := .inr (.inl ((H.size : Int) + 1))) (by show (0 : Int) ≤ _; omega) hs1)
    have e2 : ac_v (.inr (.inl ((H.size : Int) + 1))) = .ref H.size := ac_vs H.size
    rw [List.map_cons, e2] at K
    exact K
theorem s_gets (pc : Nat) {i w : Nat} (hw : w < 3) (hl1 : ac_gs M.2.2.1 i w) (d : decode M.1 pc = .ok (.getstatic i, 3)) (hV : ac_Snd G l R M QQ (pc + 3) V) : ac_Snd G l R M QQ pc (gsT w V) := by
  intro p e s m args below meth c C L S h k n hv H locs ls hR hS hl hs
  obtain ⟨hx, hb, hml, hown, hts, hK, -, -, -, -, hG⟩ := id C
  obtain ⟨t0, t1, t2, b, Lb, xs, hcs, z0, z1, z2⟩ := hK.2.2.2.2.2.2.1
  have hS0 : ∀ a : Nat, a < G.1.size → ¬ ac_A G a → s.heap[a]? = G.1[a]? := fun a ha _ => by
    rw [← hR.1.2 a ha]
    exact (hS.2.1 a (by omega) (fun q => by have q : G.1.size ≤ a := q; omega)).symm
  have core : ∀ (t : Nat) (f : Nat → Int32), va_Z "RuleCrypts" (ac_snm w) "[I" (.ref t) (ac_A G) s G.1 → (t, 6, f) ∈ G.2.2.2 → (∀ j : Nat, j < 6 → (f j).toInt = ac_tbz w j) → W p l e R s m args below meth c H locs k n (QQ below args s) (F0 m pc ls (S.map ac_v)) := by
    intro t f hZ hmem hf
    obtain ⟨c1, c1', c2, c3, c4⟩ := hR.2.2.2.2.2.2 _ hmem
    have K := hV p e s m args below meth c C _ _ _ _ _ (hv ((t : Int) + 1) ⟨by omega, c2, c3, fun j j0 j1 => by
      have c5 := c4 j.toNat (show j.toNat < 6 by omega)
      rw [show ((j.toNat : Nat) : Int) = j by omega] at c5
      rw [c5]
      have c6 := hf j.toNat (by omega)
      rw [show ((j.toNat : Nat) : Int) = j by omega] at c6
      exact c6⟩) H locs ls hR hS hl (ac_cons (v := .inr (.inl ((t : Int) + 1))) (by show (0 : Int) ≤ _; omega) hs)
    have e2 : ac_v (.inr (.inl ((t : Int) + 1))) = .ref t := ac_vs t
    rw [List.map_cons, e2] at K
    rcases hl1 with hl1 | ⟨host, hl1⟩
    · exact va_gets hx hb (hZ.kept hS0) hS hown (hts _ hl1) (fun x hx => hx) d K
    · exact va_getsN hx hb (hZ.kept hS0) hS hown (va_Nw.use (A := args) (by rfl) (hK.2.2.1 _ hl1)) (fun x hx => hx) d K
  have cs : w = 0 ∨ w = 1 ∨ w = 2 := by omega
  rcases cs with rfl | rfl | rfl
  · exact core t0 ac_tb0 z0 (by rw [hcs]; simp) (by decide)
  · exact core t1 ac_tb1 z1 (by rw [hcs]; simp) (by decide)
  · exact core t2 ac_tb2 z2 (by rw [hcs]; simp) (by decide)
theorem s_max (pc : Nat) {i mc ms : Nat} (hw1 : Cond.methodLink M.2.2.1 i Lib.Math.max.name ∈ ac_tbl) (hw2 : Cond.static Lib.Math.max.name ∈ ac_tbl) (hw3 : Cond.initialized "java/lang/Math" ∈ ac_tbl) (hw4 : Cond.code Lib.Math.max.name Lib.Math.max.code 2 (some .int) ∈ ac_tbl) (hf : 1 ≤ R.frames) (hlo : 21 ≤ R.locals)
    (hmc : mc ≤ R.cells) (hms : ms ≤ R.slots) (d : decode M.1 pc = .ok (.invokestatic i, 3)) (hV : ac_Snd G l R M QQ (pc + 3) V) : ac_Snd G l R M QQ pc (oMx mc ms V) := by
  intro p e s m args below meth c C L S h k n hv H locs ls hR hS hl hs
  match S, hv, hs with
  | .inl y :: .inl x :: S', ⟨⟨hc8, hk1, hk2⟩, hv⟩, hs =>
    obtain ⟨h1, h2⟩ := List.forall_mem_cons.mp hs
    obtain ⟨h3, h4⟩ := List.forall_mem_cons.mp h2
    obtain ⟨hx, hb, hml, hown, hts, hK, -⟩ := id C
    have hm : ac_irg (if x < y then y else x) := by split <;> assumption
    have K := hV p e s m args below meth c C _ _ _ _ _ hv H locs ls hR hS hl (ac_cons (v := .inl (if x < y then y else x)) hm h4)
    refine va_mmax hx hb (by rw [hml]; exact hl.2.1.symm) hown (hts _ hw1) (hts _ hw2) (hts _ hw3) (hts _ hw4) hf (by rw [ac_cs_sum]; omega) (by omega) (by omega) d ?_
    have e2 : (if Int32.ofInt x < Int32.ofInt y then Int32.ofInt y else Int32.ofInt x) = Int32.ofInt (if x < y then y else x) := by
      by_cases q : x < y
      · rw [if_pos q, if_pos ((ac_lt h3 h1).mpr q)]
      · rw [if_neg q, if_neg (fun z => q ((ac_lt h3 h1).mp z))]
    rw [e2]
    exact K
theorem s_min (pc : Nat) {i mc ms : Nat} (hw1 : Cond.methodLink M.2.2.1 i Lib.Math.min.name ∈ ac_tbl) (hw2 : Cond.static Lib.Math.min.name ∈ ac_tbl) (hw3 : Cond.initialized "java/lang/Math" ∈ ac_tbl) (hw4 : Cond.code Lib.Math.min.name Lib.Math.min.code 2 (some .int) ∈ ac_tbl) (hf : 1 ≤ R.frames) (hlo : 21 ≤ R.locals)
    (hmc : mc ≤ R.cells) (hms : ms ≤ R.slots) (d : decode M.1 pc = .ok (.invokestatic i, 3)) (hV : ac_Snd G l R M QQ (pc + 3) V) : ac_Snd G l R M QQ pc (oMn mc ms V) := by
  intro p e s m args below meth c C L S h k n hv H locs ls hR hS hl hs
  match S, hv, hs with
  | .inl y :: .inl x :: S', ⟨⟨hc8, hk1, hk2⟩, hv⟩, hs =>
    obtain ⟨h1, h2⟩ := List.forall_mem_cons.mp hs
    obtain ⟨h3, h4⟩ := List.forall_mem_cons.mp h2
    obtain ⟨hx, hb, hml, hown, hts, hK, -⟩ := id C
    have hm : ac_irg (if y < x then y else x) := by split <;> assumption
    have K := hV p e s m args below meth c C _ _ _ _ _ hv H locs ls hR hS hl (ac_cons (v := .inl (if y < x then y else x)) hm h4)
    refine va_mmin hx hb (by rw [hml]; exact hl.2.1.symm) hown (hts _ hw1) (hts _ hw2) (hts _ hw3) (hts _ hw4) hf (by rw [ac_cs_sum]; omega) (by omega) (by omega) d ?_
    have e2 : (if Int32.ofInt y < Int32.ofInt x then Int32.ofInt y else Int32.ofInt x) = Int32.ofInt (if y < x then y else x) := by
      by_cases q : y < x
      · rw [if_pos q, if_pos ((ac_lt h1 h3).mpr q)]
      · rw [if_neg q, if_neg (fun z => q ((ac_lt h1 h3).mp z))]
    rw [e2]
    exact K
theorem s_objInit (pc : Nat) {i : Nat} (hw1 : Cond.methodLink M.2.2.1 i Lib.objectInit ∈ ac_tbl) (hw2 : Cond.instanceMethod Lib.objectInit ∈ ac_tbl) (hw3 : Cond.code Lib.objectInit ⟨#[0xb1]⟩ 1 none ∈ ac_tbl) (hf : 1 ≤ R.frames) (hlo : 20 ≤ R.locals)
    (d : decode M.1 pc = .ok (.invokespecial i, 3)) (hV : ac_Snd G l R M QQ (pc + 3) V) : ac_Snd G l R M QQ pc (oObj V) := by
  intro p e s m args below meth c C L S h k n hv H locs ls hR hS hl hs
  match S, hv, hs with
  | .inr (.inl a) :: S', ⟨⟨a0, hc8⟩, hv⟩, hs =>
    obtain ⟨h1, h2⟩ := List.forall_mem_cons.mp hs
    obtain ⟨hx, hb, hml, hown, hts, hK, -⟩ := id C
    have e1 : ac_v (.inr (.inl a)) = .ref (a - 1).toNat := ac_rfr a0
    rw [List.map_cons, e1]
    have hmr : (F0 m pc ls (Value.ref (a - 1).toNat :: S'.map ac_v)).monitorRoom = 0 := rfl
    exact W.objInit hx hb hown (hts _ hw1) (hts _ hw2) (hts _ hw3) (g := F0 m pc ls (Value.ref (a - 1).toNat :: S'.map ac_v)) rfl (by rw [hml]; exact hl.2.1) rfl d hf (by rw [hmr, ac_cs_sum]; omega) (hV p e s m args below meth c C _ _ _ _ _ hv H locs ls hR hS hl h2)
theorem s_cast (pc : Nat) {i : Nat} (hw1 : Cond.classLink M.2.2.1 i "[I" ∈ ac_tbl) (d : decode M.1 pc = .ok (.checkcast i, 3)) (hV : ac_Snd G l R M QQ (pc + 3) V) : ac_Snd G l R M QQ pc (oCst V) := by
  intro p e s m args below meth c C L S h k n hv H locs ls hR hS hl hs
  match S, hv, hs with
  | .inr (.inl a) :: S', ⟨ht, hv⟩, hs =>
    obtain ⟨hx, hb, hml, hown, hts, hK, -⟩ := id C
    have hp := hR.bnd (a := a) (k := 0) (j := 0) (by omega)
    obtain ⟨c1, c2, c3, c4⟩ := hR.2.2.2.2.1 10 a (by omega) (by omega) ht
    have K := hV p e s m args below meth c C _ _ _ _ _ hv H locs ls hR hS hl hs
    have e1 : ac_v (.inr (.inl a)) = .ref (a - 1).toNat := ac_rfr hp.1
    rw [List.map_cons, e1] at K ⊢
    have hnm : s.vm.findClass "[I" = some (G.2.2.1 10) := (ac_arr hK (t := 10) (by omega) (by omega)).2
    intro T hT X
    obtain ⟨vm', X', st⟩ := X.checkcastYes hx hown (hts _ hw1) (by rw [hT]; exact c3) rfl hnm (va_asg _ _) (g := F0 m pc ls (.ref (a - 1).toNat :: S'.map ac_v)) rfl rfl (by rw [hb]; exact d)
    obtain ⟨t, a1, b1⟩ := K (T.setVm vm') hT X'
    exact ⟨t, st t a1, b1⟩
theorem s_clone (pc : Nat) {i mc ms : Nat} (hw1 : Cond.methodLink M.2.2.1 i ⟨"[I", "clone", "()Ljava/lang/Object;"⟩ ∈ ac_tbl) (hw2 : Cond.sameMethod "[I" "java/lang/Object" "clone" "()Ljava/lang/Object;" ∈ ac_tbl) (hw3 : Cond.native ⟨"java/lang/Object", "clone", "()Ljava/lang/Object;"⟩ ∈ ac_tbl) (hw4 : Cond.instanceMethod ⟨"java/lang/Object", "clone", "()Ljava/lang/Object;"⟩ ∈ ac_tbl)
    (hw5 : Cond.selects "[I" ⟨"[I", "clone", "()Ljava/lang/Object;"⟩ ⟨"java/lang/Object", "clone", "()Ljava/lang/Object;"⟩ ∈ ac_tbl) (hw6 : Cond.castable "[I" "java/lang/Cloneable" ∈ tables_1.filter ac_nest) (hmc : mc ≤ R.cells) (hms : ms ≤ R.slots) (hf : 1 ≤ R.frames) (hlo : 22 ≤ R.locals)
    (d : decode M.1 pc = .ok (.invokevirtual i, 3)) (hV : ac_Snd G l R M QQ (pc + 3) V) : ac_Snd G l R M QQ pc (oCln mc ms V) := by
  intro p e s m args below meth c C L S h k n hv H locs ls hR hS hl hs
  match S, hv, hs with
  | .inr (.inl a) :: S', ⟨⟨ht, m1, m2, hc8⟩, hv⟩, hs =>
    obtain ⟨h1, h2⟩ := List.forall_mem_cons.mp hs
    obtain ⟨hx, hb, hml, hown, hts, hK, -⟩ := id C
    have hp := hR.bnd (a := a) (k := 0) (j := 0) (by omega)
    obtain ⟨c1, c2, c3, c4⟩ := hR.2.2.2.2.1 10 a (by omega) (by omega) ht
    have e1 : ac_v (.inr (.inl a)) = .ref (a - 1).toNat := ac_rfr hp.1
    rw [List.map_cons, e1]
    have hnm : s.vm.findClass "[I" = some (G.2.2.1 10) := (ac_arr hK (t := 10) (by omega) (by omega)).2
    generalize hcell : arrV (G.2.2.1 10) (h 1 a 0).toNat (fun j => ac_av 10 (h 10 a j)) = cell at c3
    have hsz : cell.slots.size = (h 1 a 0).toNat := by rw [← hcell]; exact arrV_size _ _ _
    have hvm0 : cell.vm = .none := by rw [← hcell]; rfl
    have hcl0 : cell.cls = G.2.2.1 10 := by rw [← hcell]; rfl
    have hcellE : ({ cls := cell.cls, slots := cell.slots } : Cell) = cell := by rw [← hcell]; rfl
    obtain ⟨cc0, t0', f1, f2, f3⟩ := Cond.castable_spec (va_Nw.use (A := args) rfl (hK.2.2.1 _ hw6))
    cases hnm.symm.trans f1
    have hArr := (ac_arr hK (t := 10) (by omega) (by omega)).1
    intro T hT X
    obtain ⟨-, kA, hkA, comp, hkind⟩ := State.isArrayOf_alike X.warmed.alike (hArr 0 (fun _ => .null))
    obtain ⟨-, kS, hkS, compS, hkindS⟩ := hArr 0 (fun _ => .null)
    have hmr : (F0 m pc ls (Value.ref (a - 1).toNat :: S'.map ac_v)).monitorRoom = 0 := rfl
    obtain ⟨vm', X', st⟩ := X.cloneArray hx hown (hts _ hw1) (hts _ hw2) (hts _ hw3) (hts _ hw4) (hts _ hw5) (a := (a - 1).toNat) (cell := cell) (by rw [hT]; exact c3) (fun k h => by rw [hvm0] at h; cases h) (by rw [hvm0]; exact fun h => by cases h) (by rw [hcl0]; exact hnm) f2 (by rw [hcl0]; exact f3)
      (fun i v hv => by
        rw [hcl0]
        have hk' : T.vm.classes[G.2.2.1 10]? = some kA := hkA
        have hvi : fits (ac_at 10) v = true := by
          rw [← hcell] at hv
          exact va_fit (F := fun j => ac_av 10 (h 10 a j)) (fun i _ => rfl) i v hv
        simpa [State.fitsSlot, State.slotType?, hk', hkind] using hvi)
      (g := F0 m pc ls (.ref (a - 1).toNat :: S'.map ac_v)) rfl (by rw [hml]; exact hl.2.1) rfl (by rw [hb]; exact d) hf (by rw [hmr, ac_cs_sum]; omega) (by omega) (by rw [hsz]; omega) (hloader := by rw [hcl0]; exact Vm.clonesLoader_of_array hkS hkindS)
    rw [hcellE, hsz] at X'
    generalize hH1 : H.push cell = H1
    have z1 : H1.size = H.size + 1 := by rw [← hH1, Array.size_push]
    have g1 : H1[H.size]? = some cell := by rw [← hH1, Array.getElem?_push_size]
    have o1 : ∀ q : Nat, q < H.size → H1[q]? = H[q]? := fun q hq => by rw [← hH1, Array.getElem?_push, if_neg (Nat.ne_of_lt hq)]
    have hne : a ≠ (H.size : Int) + 1 := by omega
    have hg : ∀ (k' : Nat) (j : Int), ac_cln h a ((H.size : Int) + 1) k' ((H.size : Int) + 1) j = h k' a j := fun k' j => if_pos rfl
    have hR1 : ac_R G (ac_cln h a ((H.size : Int) + 1)) H1 := hR.newA (t := 10) (n := h 1 a 0) (by omega) (by omega) c1 c2 z1 o1 (by rw [hg]; exact ht) (by rw [hg]) (fun k' a' j e => if_neg e) (fun j j0 j1 => by rw [hg]; exact c4 j j0 j1)
      (by rw [g1, ← hcell]; congr 2; funext j; rw [hg])
    have K := hV p e s m args below meth c C _ _ _ _ _ (hv ((H.size : Int) + 1) hR.fresh) H1 locs ls hR1 (ac_S.new hS (by omega) o1) hl (ac_cons (v := .inr (.inl ((H.size : Int) + 1))) (by show (0 : Int) ≤ _; omega) h2)
    have e2 : ac_v (.inr (.inl ((H.size : Int) + 1))) = .ref H.size := ac_vs H.size
    rw [List.map_cons, e2] at K
    obtain ⟨t, b1, b2⟩ := K ((T.setVm vm').pushCell cell) (by rw [← hH1, ← hT]; rfl) X'
    refine ⟨t, st t ?_, b2⟩
    rw [hcellE, hT]
    exact b1
theorem ac_copied {cs : Cell} {c1 : ClassId} {n1 sp dp n : Nat} {f g : Nat → Value} (hs : cs.stretch sp n = (List.range n).map (fun i => f (sp + i))) :
    (arrV c1 n1 g).storeRun dp (cs.stretch sp n) = arrV c1 n1 (fun j => if dp ≤ j ∧ j < dp + n then f (sp + (j - dp)) else g j) := by
  rw [hs, Cell.storeRun, va_pairs]
  congr 1
  funext k
  simp only [List.length_map, List.length_range, Nat.add_zero]
  by_cases h : dp ≤ k ∧ k < dp + n
  · rw [if_pos h, if_pos h, List.getD_eq_getElem?_getD, List.getElem?_map, List.getElem?_range (by omega)]
    rfl
  · rw [if_neg h, if_neg h]
theorem s_copy (pc : Nat) {i : Nat} (hw1 : Cond.methodLink M.2.2.1 i arraycopyName ∈ ac_tbl) (hw2 : Cond.native arraycopyName ∈ ac_tbl) (hw3 : Cond.static arraycopyName ∈ ac_tbl) (hw4 : Cond.initialized "java/lang/System" ∈ ac_tbl) (hf : 1 ≤ R.frames) (hlo : 30 ≤ R.locals)
    (d : decode M.1 pc = .ok (.invokestatic i, 3)) (hV : ac_Snd G l R M QQ (pc + 3) V) : ac_Snd G l R M QQ pc (oCpy V) := by
  intro p e s m args below meth c C L S h k n hv H locs ls hR hS hl hs
  match S, hv, hs with
  | .inl z :: .inl dp :: .inr (.inl b) :: .inl sp :: .inr (.inl a) :: S', ⟨⟨ha, hb0, sp0, dp0, z0, q1, q2, hc8⟩, hv⟩, hs =>
    obtain ⟨y1, hs⟩ := List.forall_mem_cons.mp hs
    obtain ⟨y2, hs⟩ := List.forall_mem_cons.mp hs
    obtain ⟨y3, hs⟩ := List.forall_mem_cons.mp hs
    obtain ⟨y4, hs⟩ := List.forall_mem_cons.mp hs
    obtain ⟨y5, hs⟩ := List.forall_mem_cons.mp hs
    obtain ⟨hx, hb, hml, hown, hts, hK, -⟩ := id C
    obtain ⟨a0, n0, n1, cs, x1, x2, x3, x4, x5⟩ := ac_arrC C hR (t := 10) (by omega) (by omega) (ha.imp id (fun q => ⟨rfl, q⟩))
    have hp := hR.bnd (a := b) (k := 0) (j := 0) (by omega)
    obtain ⟨d1, d2, d3, d4⟩ := hR.2.2.2.2.1 10 b (by omega) (by omega) hb0
    have e1 : ac_v (.inr (.inl a)) = .ref (a - 1).toNat := ac_rfr a0
    have e2 : ac_v (.inr (.inl b)) = .ref (b - 1).toNat := ac_rfr hp.1
    rw [List.map_cons, List.map_cons, List.map_cons, List.map_cons, List.map_cons, e1, e2]
    have w0 : ∀ x : Int, ac_irg x → 0 ≤ x → ¬ Int32.ofInt x < 0 := fun x hx h0 => by rw [← ac_0, ac_lt hx ac_z]; omega
    obtain ⟨hno, k0, hk0, cm0, hkk0⟩ := x2
    obtain ⟨-, k1, hk1, cm1, hkk1⟩ := (ac_arr hK (t := 10) (by omega) (by omega)).1 (h 1 b 0).toNat (fun j => ac_av 10 (h 10 b j))
    have hrd : ∀ i : Nat, i < z.toNat → cs.slots.getD (sp.toNat + i) .null = ac_av 10 (h 10 a (sp + i)) := fun i hi => by
      have := (x5 (sp + i) (by omega) (by omega)).1
      rw [show (sp + (i : Int)).toNat = sp.toNat + i by omega] at this
      rw [Array.getD_eq_getD_getElem?, this]
      rfl
    have hst : cs.stretch sp.toNat z.toNat = (List.range z.toNat).map (fun i => ac_av 10 (h 10 a ((sp.toNat + i : Nat) : Int))) := by
      unfold Cell.stretch
      apply List.map_congr_left
      intro i hi
      rw [hrd i (List.mem_range.mp hi)]
      congr 2
      omega
    intro T hT X
    have hmr : (F0 m pc ls (.int (Int32.ofInt z) :: .int (Int32.ofInt dp) :: .ref (b - 1).toNat :: .int (Int32.ofInt sp) :: .ref (a - 1).toNat :: S'.map ac_v)).monitorRoom = 0 := rfl
    obtain ⟨vm', X', step⟩ := X.arraycopy hx hown (hts _ hw1) (hts _ hw2) (hts _ hw3) (hts _ hw4) (src := (a - 1).toNat) (dst := (b - 1).toNat) (cs := cs) (cd := arrV (G.2.2.1 10) (h 1 b 0).toNat (fun j => ac_av 10 (h 10 b j))) (srcPos := Int32.ofInt sp) (destPos := Int32.ofInt dp) (n := Int32.ofInt z)
      (by rw [hT]; exact x1) (by rw [hT]; exact d3) hno (fun _ h => by cases h) x3 (fun h => by cases h) hk0 hk1 hkk0 hkk1 (by decide) (w0 _ y4 sp0) (w0 _ y2 dp0) (w0 _ y1 z0)
      (by rw [ac_ti y4, ac_ti y1, x4]; omega) (by rw [ac_ti y2, ac_ti y1, arrV_size]; omega)
      (fun vm₁ _ i hi => by
        rw [ac_cl y1] at hi
        rw [ac_cl y4, hrd i hi]
        exact ⟨rfl, trivial⟩)
      (g := F0 m pc ls (.int (Int32.ofInt z) :: .int (Int32.ofInt dp) :: .ref (b - 1).toNat :: .int (Int32.ofInt sp) :: .ref (a - 1).toNat :: S'.map ac_v)) rfl (by rw [hml]; exact hl.2.1) (rest := S'.map ac_v) rfl (by rw [hb]; exact d) hf
      (by rw [hmr, ac_cs_sum, show nativeFrameWords "java/lang/System" "arraycopy" 5 = 7 from by decide]; omega)
    have e3 : copied cs (arrV (G.2.2.1 10) (h 1 b 0).toNat (fun j => ac_av 10 (h 10 b j))) (Int32.ofInt sp) (Int32.ofInt dp) (Int32.ofInt z) = arrV (G.2.2.1 10) (h 1 b 0).toNat (fun j => ac_av 10 (ac_cpy h a sp b dp z 10 b j)) := by
      show (arrV _ _ _).storeRun _ (cs.stretch _ _) = _
      rw [ac_cl y4, ac_cl y2, ac_cl y1, ac_copied (f := fun q => ac_av 10 (h 10 a (q : Int))) hst]
      congr 1
      funext j
      unfold ac_cpy
      by_cases q : dp.toNat ≤ j ∧ j < dp.toNat + z.toNat
      · rw [if_pos q, if_pos ⟨rfl, rfl, by omega, by omega⟩]
        congr 2
        omega
      · rw [if_neg q, if_neg (fun z => q (by omega))]
    rw [e3] at X' step
    have hl2 : (b - 1).toNat < H.size := (Array.getElem?_eq_some_iff.mp d3).1
    generalize hnc : arrV (G.2.2.1 10) (h 1 b 0).toNat (fun j => ac_av 10 (ac_cpy h a sp b dp z 10 b j)) = nc at X' step
    have hheap : ((T.setVm vm').setCell (b - 1).toNat nc).heap = H.setIfInBounds (b - 1).toNat nc := by rw [← hT]; rfl
    have oq : ∀ q : Nat, q ≠ (b - 1).toNat → (H.setIfInBounds (b - 1).toNat nc)[q]? = H[q]? := fun q hq => ac_set2 _ _ _ _ hq
    have hR1 : ac_R G (ac_cpy h a sp b dp z) (H.setIfInBounds (b - 1).toNat nc) := hR.fill (t := 10) (a := b) (by omega) (by omega) hb0 (fun k' a' j hn => if_neg (fun q => hn ⟨q.1, q.2.1, by omega, by omega⟩))
      (fun j j0 j1 => by
        unfold ac_cpy
        split
        · exact (x5 _ (by omega) (by omega)).2
        · exact d4 j j0 j1)
      (by rw [hnc]; exact ac_set1 _ _ _ hl2) (by simp) oq
    have hAb := hR.2.2.1 b (by omega) (by omega)
    obtain ⟨t, a1, b1⟩ := hV p e s m args below meth c C _ _ _ _ _ hv _ _ ls hR1 ⟨by simp; exact hS.1, fun q g1 g2 => by
        rw [oq q (fun e => g2 (by rw [e]; exact hAb))]
        exact hS.2.1 q g1 g2, fun q hq => by
        rcases List.mem_append.mp hq with h | h
        · exact hS.2.2 q h
        · obtain ⟨z, -, hz⟩ := List.mem_map.mp h
          rw [← hz]
          exact hAb⟩ hl hs _ hheap X'
    exact ⟨t, step t a1, b1⟩
end AR4
