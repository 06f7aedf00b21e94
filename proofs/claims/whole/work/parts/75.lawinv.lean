/-! ===== the law's loop: what holds at its head, and over a call of both ===== -/
def SC (h : ac_H) (B Ln : Int) (f : Int → Int) : Prop := h 0 B 0 = 18 ∧ h 1 B 0 = Ln ∧ ∀ j, 0 ≤ j → j < Ln → h 10 B j = f j
def APT (h : ac_H) (ad : sS) (B m o : Int) : Prop := ∀ t i j, ad t i j ≠ B ∧ ad t i j ≠ m ∧ ad t i j ≠ o ∧ ∀ k, mL k ≠ 0 → ad t i j ≠ h (1000 + k) m 0
def OT (h : ac_H) (o : Int) : Prop := h 0 o 0 = 12 ∧ h 1 o 0 = 1
def LI (B Ln : Int) (f : Int → Int) (h : ac_H) (x m o : Int) : Prop := ∃ ad s, RC h x ad s ∧ SI s ∧ MK h m ∧ TS (tv h m) s ∧ APT h ad B m o ∧ OT h o ∧ SC h B Ln f
/-- between the class's call and the model's -/
def LA (B Ln : Int) (f : Int → Int) (h : ac_H) (x m o : Int) (P : sS → Prop) (cd : sS → Int) (F : sS → sS) : Prop := ∃ ad s, P s ∧ RC h x ad (if cd s = 0 then F s else s) ∧ SI s ∧ MK h m ∧ TS (tv h m) s ∧ APT h ad B m o ∧ OT h o ∧ SC h B Ln f
theorem MV_same {h h1 : ac_H} {m : Int} (hK : MK h m) (hm : ∀ k z, h1 k m z = h k m z) (ha : ∀ i, mL i ≠ 0 → ∀ k z, h1 k (h (1000 + i) m 0) z = h k (h (1000 + i) m 0) z) : MK h1 m ∧ tv h1 m = tv h m := by
  obtain ⟨m0, mk, mr, md⟩ := hK
  refine ⟨⟨m0, by rw [hm]; exact mk, fun k hk => by rw [hm, ha k hk, ha k hk]; exact mr k hk, fun k k' a b e => md k k' a b (by rw [hm, hm] at e; exact e)⟩, ?_⟩
  funext k j
  by_cases q : mL k = 0
  · rw [tv_f q, tv_f q, hm]
  · rw [tv_a q, tv_a q, hm, ha k q]
theorem RC_fr {h h' : ac_H} {x : Int} {ad s : sS} (hf : ∀ t i j (k : Nat), h' k (ad t i j) = h k (ad t i j)) (hR : RC h x ad s) : RC h' x ad s := by
  have hx : x = ad 0 0 0 := hR.2.1.1.symm
  rw [hx] at hR ⊢
  simp only [RC, RCi, RCf, RCs, RCd, RCp, RCc, RCg, RCl, RCr, hf] at hR ⊢
  exact hR
theorem LI_C {B Ln : Int} {f : Int → Int} {h : ac_H} {x m o : Int} (hI : LI B Ln f h x m o) : CWo h x o := by
  obtain ⟨ad, s, hR, hS, hK, hT, hA, hO, hC⟩ := hI
  exact ⟨⟨ad, s, hR, hS, fun t i j => (hA t i j).2.2.1⟩, hO.1, hO.2⟩
theorem LI_S {B Ln : Int} {f : Int → Int} {h : ac_H} {x m o : Int} (hI : LI B Ln f h x m o) : SC h B Ln f := by
  obtain ⟨ad, s, hR, hS, hK, hT, hA, hO, hC⟩ := hI
  exact hC
theorem LA_S {B Ln : Int} {f : Int → Int} {h : ac_H} {x m o : Int} {P : sS → Prop} {cd : sS → Int} {F : sS → sS} (hI : LA B Ln f h x m o P cd F) : SC h B Ln f ∧ MW h m ∧ h 0 m 0 = 29 := by
  obtain ⟨ad, s, hP, hR, hS, hK, hT, hA, hO, hC⟩ := hI
  exact ⟨hC, ⟨hK, s, hT, hS⟩, hK.2.1⟩
theorem mW_k {k : Nat} : ((mW k : Nat) : Int) ≠ 0 ∧ ((mW k : Nat) : Int) ≠ 12 ∧ ((mW k : Nat) : Int) ≠ 18 ∧ ((mW k : Nat) : Int) ≠ 29 := by
  rcases mW_c k with q | q <;> rw [q] <;> decide
theorem law_fr {B Ln : Int} {f : Int → Int} {h h1 : ac_H} {m o : Int} {ad ad' s : sS} (hK : MK h m) (hT : TS (tv h m) s) (hA : APT h ad B m o) (hO : OT h o) (hC : SC h B Ln f) (hn : ∀ t i j, ad' t i j = ad t i j ∨ h 0 (ad' t i j) 0 = 0)
    (hk : ∀ (k : Nat) (y z : Int), h 0 y 0 ≠ 0 → (∀ t i j, ad t i j ≠ y) → ¬ (k = 12 ∧ y = o) → h1 k y z = h k y z) : MK h1 m ∧ TS (tv h1 m) s ∧ APT h1 ad' B m o ∧ OT h1 o ∧ SC h1 B Ln f := by
  have m29 := hK.2.1
  have hm : ∀ k z, h1 k m z = h k m z := fun k z => hk k m z (by rw [m29]; decide) (fun t i j => (hA t i j).2.1) (fun q => by have := hO.1; rw [← q.2, m29] at this; exact absurd this (by decide))
  have ha : ∀ i, mL i ≠ 0 → ∀ k z, h1 k (h (1000 + i) m 0) z = h k (h (1000 + i) m 0) z := fun i hi k z => by
    have e := (hK.2.2.1 i hi).2.1
    exact hk k _ z (by rw [e]; exact mW_k.1) (fun t i' j => (hA t i' j).2.2.2 i hi) (fun q => by rw [q.2, hO.1] at e; exact mW_k.2.1 e.symm)
  have hb : ∀ k z, h1 k B z = h k B z := fun k z => hk k B z (by rw [hC.1]; decide) (fun t i j => (hA t i j).1) (fun q => by have := hO.1; rw [← q.2, hC.1] at this; exact absurd this (by decide))
  have ho : ∀ k z, k ≠ 12 → h1 k o z = h k o z := fun k z k12 => hk k o z (by rw [hO.1]; decide) (fun t i j => (hA t i j).2.2.1) (fun q => k12 q.1)
  obtain ⟨a, b⟩ := MV_same hK hm ha
  refine ⟨a, by rw [b]; exact hT, fun t i j => ?_, ⟨by rw [ho 0 0 (by decide)]; exact hO.1, by rw [ho 1 0 (by decide)]; exact hO.2⟩, by rw [hb]; exact hC.1, by rw [hb]; exact hC.2.1, fun j j0 j1 => by rw [hb]; exact hC.2.2 j j0 j1⟩
  rcases hn t i j with q | q
  · rw [q]
    obtain ⟨a1, a2, a3, a4⟩ := hA t i j
    exact ⟨a1, a2, a3, fun k hk => by rw [hm]; exact a4 k hk⟩
  · refine ⟨fun e => ?_, fun e => ?_, fun e => ?_, fun k hk e => ?_⟩
    · rw [e, hC.1] at q; exact absurd q (by decide)
    · rw [e, m29] at q; exact absurd q (by decide)
    · rw [e, hO.1] at q; exact absurd q (by decide)
    · rw [hm] at e; rw [e, (hK.2.2.1 k hk).2.1] at q; exact mW_k.1 q
theorem law_A {B Ln : Int} {f : Int → Int} {h h1 : ac_H} {x m o : Int} {v : Option ac_V} {cd vl : sS → Int} {F : sS → sS} (hI : LI B Ln f h x m o) (w : WPo x o h h1 v cd vl F) : ∃ c, v = some (.inl c) ∧ LA B Ln f h1 x m o (fun s => c = cd s ∧ (c = 0 → h1 12 o 0 = vl s)) cd F := by
  obtain ⟨ad, s, hR, hS, hK, hT, hA, hO, hC⟩ := hI
  obtain ⟨w1, w2, ad', w3, w4, w5⟩ := w ad s hR hS (fun t i j => (hA t i j).2.2.1)
  obtain ⟨a1, a2, a3, a4, a5⟩ := law_fr hK hT hA hO hC w4 w5
  exact ⟨cd s, w1, ad', s, ⟨rfl, w2⟩, w3, hS, a1, a2, a3, a4, a5⟩
theorem law_A0 {B Ln : Int} {f : Int → Int} {h h1 : ac_H} {x m o : Int} {v : Option ac_V} {vl : sS → Int} {F : sS → sS} (hI : LI B Ln f h x m o) (w : OKc x h h1 v (fun _ => 0) vl F) : ∃ c, v = some (.inl c) ∧ LA B Ln f h1 x m o (fun s => c = vl s) (fun _ => 0) F := by
  obtain ⟨ad, s, hR, hS, hK, hT, hA, hO, hC⟩ := hI
  obtain ⟨-, w1, ad', w3, w4⟩ := w ad s hR hS
  obtain ⟨a1, a2, a3, a4, a5⟩ := law_fr (h1 := h1) hK hT hA hO hC w4.2 (fun k y z hy hn _ => w4.1 k y z hy hn)
  exact ⟨vl s, w1, ad', s, rfl, by rw [if_pos rfl]; exact w3, hS, a1, a2, a3, a4, a5⟩
theorem law_B {B Ln : Int} {f : Int → Int} {h h1 : ac_H} {x m o : Int} {v : Option ac_V} {P : sS → Prop} {cd vl : sS → Int} {F : sS → sS} (hI : LA B Ln f h x m o P cd F) (om : OKm m h h1 v cd vl F) (hF : ∀ s, SI s → cd s = 0 → SI (F s)) : ∃ s w, P s ∧ v = some (.inl w) ∧ MK h1 m ∧ h1 0 m 0 = 29 ∧ tv h1 m 0 0 = cd s ∧ (cd s = 0 → w = vl s) ∧ h1 12 o 0 = h 12 o 0 ∧ OT h1 o ∧ LI B Ln f h1 x m o := by
  obtain ⟨ad, s, hP, hR, hS, hK, hT, hA, hO, hC⟩ := hI
  obtain ⟨T', w, hM, t0, rfl, hy, hn⟩ := om s hT hS
  obtain ⟨k1, k2, k3, k4⟩ := hM
  have nar : ∀ y : Int, (∀ k, mL k ≠ 0 → y ≠ h (1000 + k) m 0) → y ≠ m → ∀ (k : Nat) z, h1 k y z = h k y z := fun y hy ym k z => k4 k y z (fun q => ym q.2) (fun q => by obtain ⟨-, i, hi, e⟩ := q; exact hy i hi e)
  have hB : ∀ (k : Nat) z, h1 k B z = h k B z := nar B (fun k hk e => by have := (hK.2.2.1 k hk).2.1; rw [← e, hC.1] at this; exact mW_k.2.2.1 this.symm) (fun e => by have := hK.2.1; rw [← e, hC.1] at this; exact absurd this (by decide))
  have ho : ∀ (k : Nat) z, h1 k o z = h k o z := nar o (fun k hk e => by have := (hK.2.2.1 k hk).2.1; rw [← e, hO.1] at this; exact mW_k.2.1 this.symm) (fun e => by have := hK.2.1; rw [← e, hO.1] at this; exact absurd this (by decide))
  have had : ∀ t i j (k : Nat), h1 k (ad t i j) = h k (ad t i j) := fun t i j k => by
    funext z
    exact nar _ (hA t i j).2.2.2 (hA t i j).2.1 k z
  have hR1 := RC_fr had hR
  have hO1 : OT h1 o := ⟨by rw [ho]; exact hO.1, by rw [ho]; exact hO.2⟩
  have hT1 : TS (tv h1 m) (if cd s = 0 then F s else s) := by
    rw [k2]
    by_cases c : cd s = 0
    · rw [if_pos c]; exact (hy c).2
    · rw [if_neg c]; exact hn c
  have hS1 : SI (if cd s = 0 then F s else s) := by
    by_cases c : cd s = 0
    · rw [if_pos c]; exact hF s hS c
    · rw [if_neg c]; exact hS
  refine ⟨s, w, hP, rfl, k1, k1.2.1, by rw [k2]; exact t0, fun c => (hy c).1, ho 12 0, hO1, ad, _, hR1, hS1, k1, hT1, fun t i j => ?_, hO1, by rw [hB]; exact hC.1, by rw [hB]; exact hC.2.1, fun j j0 j1 => by rw [hB]; exact hC.2.2 j j0 j1⟩
  obtain ⟨a1, a2, a3, a4⟩ := hA t i j
  exact ⟨a1, a2, a3, fun k hk => by rw [k3 k hk]; exact a4 k hk⟩
def caseI (B Ln : Int) (f : Int → Int) (mm : Nat) (d : Nat) (e : Int) : ac_S := fun L S h k z => ∃ (x m o i : Int) (n : Nat) (p5 p6 : Option ac_V), i = 5 * n ∧ (mm : Int) = 6000 - 2 * i - e ∧ i ≤ 2560 ∧ (e ≠ 0 → i + 4 < Ln) ∧ LI B Ln f h x m o ∧ L = [some (.inr (.inl B)), some (.inr (.inl x)), some (.inr (.inl m)), some (.inr (.inl o)), some (.inl i), p5, p6] ∧ S = [] ∧ k ≤ 100 + 28 * (n + d) ∧ z ≤ 10000 + 395 * (n + d)
def ivLaw (B Ln : Int) (f : Int → Int) : Nat → Nat → ac_S := fun j mm L S h k z =>
  if j = 0 then (mm = 100000 ∧ SC h B Ln f ∧ L = [some (.inr (.inl B)), none, none, none, none, none, none] ∧ S = [] ∧ k = 0 ∧ z = 0)
  else if j = 1 then caseI B Ln f mm 0 0 L S h k z else if j = 33 then caseI B Ln f mm 1 2 L S h k z else (j < 34 ∧ caseI B Ln f mm 0 1 L S h k z)
theorem iv_0 {B Ln : Int} {f : Int → Int} {mm : Nat} {L : ac_L} {S : List ac_V} {h : ac_H} {k z : Nat} : ivLaw B Ln f 0 mm L S h k z ↔ (mm = 100000 ∧ SC h B Ln f ∧ L = [some (.inr (.inl B)), none, none, none, none, none, none] ∧ S = [] ∧ k = 0 ∧ z = 0) := by
  unfold ivLaw; rw [if_pos rfl]
theorem iv_1 {B Ln : Int} {f : Int → Int} {mm : Nat} {L : ac_L} {S : List ac_V} {h : ac_H} {k z : Nat} : ivLaw B Ln f 1 mm L S h k z ↔ caseI B Ln f mm 0 0 L S h k z := by
  unfold ivLaw; rw [if_neg (by decide), if_pos rfl]
theorem iv_33 {B Ln : Int} {f : Int → Int} {mm : Nat} {L : ac_L} {S : List ac_V} {h : ac_H} {k z : Nat} : ivLaw B Ln f 33 mm L S h k z ↔ caseI B Ln f mm 1 2 L S h k z := by
  unfold ivLaw; rw [if_neg (by decide), if_neg (by decide), if_pos rfl]
theorem iv_c {B Ln : Int} {f : Int → Int} {j mm : Nat} {L : ac_L} {S : List ac_V} {h : ac_H} {k z : Nat} (h2 : 2 ≤ j) (h3 : j ≠ 33) : ivLaw B Ln f j mm L S h k z ↔ (j < 34 ∧ caseI B Ln f mm 0 1 L S h k z) := by
  unfold ivLaw; rw [if_neg (by omega), if_neg (by omega), if_neg h3]
def lawLR : ac_S := fun _ S _ k z => S = [.inl 1] ∧ k ≤ 601024 ∧ z ≤ 7293034
