/-! ===== two objects of the class in one memory ===== -/
theorem RC_fr {h h' : ac_H} {x : Int} {ad s : sS} (hf : ∀ t i j (k : Nat), h' k (ad t i j) = h k (ad t i j)) (hR : RC h x ad s) : RC h' x ad s := by
  have hx : x = ad 0 0 0 := hR.2.1.1.symm
  rw [hx] at hR ⊢
  simp only [RC, RCi, RCf, RCs, RCd, RCp, RCc, RCg, RCl, RCr, hf] at hR ⊢
  exact hR
theorem PK_0 {h : ac_H} (p : PK h) {a : Int} (ha : a < 0) (k : Nat) (j : Int) : h k a j = 0 := by
  by_cases q : h k a j = 0
  · exact q
  · have := p k a j q; omega
theorem RC_o {h g : ac_H} {x : Int} {ad s : sS} (p1 : PK h) (p2 : PK g) (hz : ∀ t i j, h 0 (ad t i j) 0 ≠ 0 → ∀ (k : Nat) z, g k (ad t i j) z = h k (ad t i j) z) (hR : RC h x ad s) : RC g x ad s :=
  RC_fr (fun t i j k => by
    funext z
    rcases hR.1.2 t i j with q | q
    · rw [PK_0 p1 q, PK_0 p2 q]
    · exact hz t i j q k z) hR
/-- one object, with places Z that it doesn't own -/
def FZ (Z : Int → Prop) (h : ac_H) (o : Int) (s : sS) : Prop := ∃ ad, RC h o ad s ∧ XI s ∧ (∀ t i j, ¬ Z (ad t i j)) ∧ ∀ y, Z y → h 0 y 0 ≠ 0
def KZ (Z : Int → Prop) (h g : ac_H) : Prop := ∀ (k : Nat) (y z : Int), Z y → g k y z = h k y z
theorem KZ_rf (Z : Int → Prop) (h : ac_H) : KZ Z h h := fun _ _ _ _ => rfl
theorem KZ_tr {Z : Int → Prop} {h1 h2 h3 : ac_H} (a : KZ Z h1 h2) (b : KZ Z h2 h3) : KZ Z h1 h3 := fun k y z q => by rw [b k y z q, a k y z q]
theorem FZ_ok {Z : Int → Prop} {h g : ac_H} {o : Int} {ad s s' : sS} (hR : RC h o ad s) (hz : ∀ t i j, ¬ Z (ad t i j)) (hk : ∀ y, Z y → h 0 y 0 ≠ 0) (hX : XI s') (w : okS h g o ad s') : FZ Z g o s' ∧ KZ Z h g := by
  obtain ⟨ad', hR', hF⟩ := w
  have kz : KZ Z h g := fun k y z hy => hF.1 k y z (hk y hy) (fun t i j e => hz t i j (by rw [e]; exact hy))
  refine ⟨⟨ad', hR', hX, fun t i j q => ?_, fun y hy => by rw [kz 0 y 0 hy]; exact hk y hy⟩, kz⟩
  rcases hF.2 t i j with e | e
  · rw [e] at q; exact hz t i j q
  · exact hk _ q e
theorem FZ_c {Z : Int → Prop} {h g : ac_H} {o : Int} {s : sS} {v : Option ac_V} {cd vl : sS → Int} {F : sS → sS} (hs : FZ Z h o s) (w : OKc o h g v cd vl F) (hF : ∀ s, XI s → cd s = 0 → XI (F s)) : cd s = 0 ∧ v = some (.inl (vl s)) ∧ FZ Z g o (F s) ∧ KZ Z h g := by
  obtain ⟨ad, hR, hX, hz, hk⟩ := hs
  obtain ⟨c, e, ok⟩ := w ad s hR hX.1
  exact ⟨c, e, FZ_ok hR hz hk (hF s hX c) ok⟩
theorem FZ_e {Z : Int → Prop} {h g : ac_H} {o : Int} {s : sS} {E : String} {cd : sS → Int} {nm : Int → String} (hs : FZ Z h o s) (w : EXc o h g E cd nm) : cd s ≠ 0 ∧ E = nm (cd s) ∧ FZ Z g o s ∧ KZ Z h g := by
  obtain ⟨ad, hR, hX, hz, hk⟩ := hs
  obtain ⟨c, e, ok⟩ := w ad s hR hX.1
  exact ⟨c, e, FZ_ok hR hz hk hX ok⟩
theorem FZ_W {Z : Int → Prop} {h : ac_H} {o : Int} {s : sS} (hs : FZ Z h o s) : CW h o ∧ h 0 o 0 = 28 := by
  obtain ⟨ad, hR, hX, -, -⟩ := hs
  exact ⟨⟨ad, s, hR, hX.1⟩, hR.2.1.2.2.1⟩
theorem FZ_0 {Z : Int → Prop} {h : ac_H} {o : Int} {s : sS} (hs : FZ Z h o s) : FZ (fun _ => False) h o s := by
  obtain ⟨ad, hR, hX, -, -⟩ := hs
  exact ⟨ad, hR, hX, fun _ _ _ q => q, fun _ q => q.elim⟩
def CX (h : ac_H) (o : Int) : Prop := ∃ s, FZ (fun _ => False) h o s
theorem CX_W {h : ac_H} {o : Int} (q : CX h o) : CW h o ∧ h 0 o 0 = 28 := by obtain ⟨s, hs⟩ := q; exact FZ_W hs
/-- what a call of one object answers, and what becomes of it -/
def OKz (o : Int) (h g : ac_H) (v : Option ac_V) (vl : sS → Int) (F : sS → sS) : Prop := ∀ Z s, FZ Z h o s → v = some (.inl (vl s)) ∧ FZ Z g o (F s) ∧ KZ Z h g
/-- the object stays as it is -/
def CZ (o : Int) (h g : ac_H) : Prop := ∀ Z s, FZ Z h o s → FZ Z g o s ∧ KZ Z h g
theorem CZ_rf (o : Int) (h : ac_H) : CZ o h h := fun Z _ q => ⟨q, KZ_rf Z h⟩
theorem CZ_tr {o : Int} {h1 h2 h3 : ac_H} (a : CZ o h1 h2) (b : CZ o h2 h3) : CZ o h1 h3 := fun Z s q => by
  obtain ⟨a1, a2⟩ := a Z s q
  obtain ⟨b1, b2⟩ := b Z s a1
  exact ⟨b1, KZ_tr a2 b2⟩
theorem CZ_c {o : Int} {h g : ac_H} {v : Option ac_V} {cd vl : sS → Int} (w : OKc o h g v cd vl id) : CZ o h g := fun Z s q => (FZ_c q w (fun _ h _ => h)).2.2
theorem CZ_X {o : Int} {h g : ac_H} (a : CZ o h g) {s : sS} {Z : Int → Prop} (q : FZ Z h o s) : FZ Z g o s := (a Z s q).1
def AP (h : ac_H) (ao ap : sS) : Prop := ∀ t i j t' i' j', h 0 (ap t' i' j') 0 ≠ 0 → ao t i j ≠ ap t' i' j'
theorem AP_sw {h : ac_H} {ao ap : sS} (a : AP h ao ap) : AP h ap ao := fun t i j t' i' j' q e => a t' i' j' t i j (by rw [e]; exact q) e.symm
/-- the script's array -/
def SC (h : ac_H) (B Ln : Int) (f : Int → Int) : Prop := h 0 B 0 = 18 ∧ h 1 B 0 = Ln ∧ ∀ j, 0 ≤ j → j < Ln → h 10 B j = f j
def DE (B Ln : Int) (f : Int → Int) (h : ac_H) (o p : Int) (so sp : sS) : Prop := ∃ ao ap, RC h o ao so ∧ RC h p ap sp ∧ XI so ∧ XI sp ∧ AP h ao ap ∧ (∀ t i j, ao t i j ≠ B ∧ ap t i j ≠ B) ∧ SC h B Ln f ∧ PK h
theorem DE_sw {B Ln : Int} {f : Int → Int} {h : ac_H} {o p : Int} {so sp : sS} (d : DE B Ln f h o p so sp) : DE B Ln f h p o sp so := by
  obtain ⟨ao, ap, r1, r2, x1, x2, a, b, c, e⟩ := d
  exact ⟨ap, ao, r2, r1, x2, x1, AP_sw a, fun t i j => ⟨(b t i j).2, (b t i j).1⟩, c, e⟩
/-- the places that a call of o leaves alone -/
def ZZ (h : ac_H) (B : Int) (ap : sS) : Int → Prop := fun y => h 0 y 0 ≠ 0 ∧ (y = B ∨ ∃ t i j, ap t i j = y)
theorem DE_Z {B Ln : Int} {f : Int → Int} {h : ac_H} {o p : Int} {so sp : sS} (d : DE B Ln f h o p so sp) : FZ (fun _ => False) h o so ∧ FZ (fun _ => False) h p sp ∧ SC h B Ln f ∧ PK h := by
  obtain ⟨ao, ap, r1, r2, x1, x2, a, b, c, e⟩ := d
  exact ⟨⟨ao, r1, x1, fun _ _ _ q => q, fun _ q => q.elim⟩, ⟨ap, r2, x2, fun _ _ _ q => q, fun _ q => q.elim⟩, c, e⟩
theorem DE_o {B Ln : Int} {f : Int → Int} {h g : ac_H} {o p : Int} {so sp s' : sS} (d : DE B Ln f h o p so sp) (w : ∀ Z, FZ Z h o so → FZ Z g o s' ∧ KZ Z h g) (pk : PK g) : DE B Ln f g o p s' sp := by
  obtain ⟨ao, ap, r1, r2, x1, x2, a, b, c, e⟩ := d
  obtain ⟨⟨ao', r1', x1', nz, kz⟩, fr⟩ := w (ZZ h B ap) ⟨ao, r1, x1, fun t i j q => by
    rcases q.2 with e1 | ⟨t', i', j', e1⟩
    · exact (b t i j).1 e1
    · exact a t i j t' i' j' (by rw [e1]; exact q.1) e1.symm, fun y hy => hy.1⟩
  have zp : ∀ t i j, h 0 (ap t i j) 0 ≠ 0 → ZZ h B ap (ap t i j) := fun t i j q => ⟨q, Or.inr ⟨t, i, j, rfl⟩⟩
  have zb : ZZ h B ap B := ⟨by rw [c.1]; decide, Or.inl rfl⟩
  refine ⟨ao', ap, r1', RC_o e pk (fun t i j q k z => fr k _ z (zp t i j q)) r2, x1', x2, fun t i j t' i' j' q e1 => ?_, fun t i j => ⟨fun e1 => ?_, (b t i j).2⟩, ⟨by rw [fr 0 B 0 zb]; exact c.1, by rw [fr 1 B 0 zb]; exact c.2.1, fun j j0 j1 => by rw [fr 10 B j zb]; exact c.2.2 j j0 j1⟩, pk⟩
  · have p0 := pk 0 _ 0 q
    rcases r2.1.2 t' i' j' with w1 | w1
    · omega
    · exact nz t i j (by rw [e1]; exact zp t' i' j' w1)
  · exact nz t i j (by rw [e1]; exact zb)
theorem DE_p {B Ln : Int} {f : Int → Int} {h g : ac_H} {o p : Int} {so sp s' : sS} (d : DE B Ln f h o p so sp) (w : ∀ Z, FZ Z h p sp → FZ Z g p s' ∧ KZ Z h g) (pk : PK g) : DE B Ln f g o p so s' := DE_sw (DE_o (DE_sw d) w pk)
/-- a call of o: its answer, and what becomes of both -/
theorem DE_oc {B Ln : Int} {f : Int → Int} {h g : ac_H} {o p : Int} {so sp : sS} {v : Option ac_V} {cd vl : sS → Int} {F : sS → sS} (d : DE B Ln f h o p so sp) (w : OKc o h g v cd vl F) (hF : ∀ s, XI s → cd s = 0 → XI (F s)) (pk : PK g) : cd so = 0 ∧ v = some (.inl (vl so)) ∧ DE B Ln f g o p (F so) sp := by
  obtain ⟨c, e, -, -⟩ := FZ_c (DE_Z d).1 w hF
  exact ⟨c, e, DE_o d (fun Z q => (FZ_c q w hF).2.2) pk⟩
theorem DE_pc {B Ln : Int} {f : Int → Int} {h g : ac_H} {o p : Int} {so sp : sS} {v : Option ac_V} {cd vl : sS → Int} {F : sS → sS} (d : DE B Ln f h o p so sp) (w : OKc p h g v cd vl F) (hF : ∀ s, XI s → cd s = 0 → XI (F s)) (pk : PK g) : cd sp = 0 ∧ v = some (.inl (vl sp)) ∧ DE B Ln f g o p so (F sp) := by
  obtain ⟨c, e, d'⟩ := DE_oc (DE_sw d) w hF pk
  exact ⟨c, e, DE_sw d'⟩
theorem DE_oz {B Ln : Int} {f : Int → Int} {h g : ac_H} {o p : Int} {so sp : sS} {v : Option ac_V} {vl : sS → Int} {F : sS → sS} (d : DE B Ln f h o p so sp) (w : OKz o h g v vl F) (pk : PK g) : v = some (.inl (vl so)) ∧ DE B Ln f g o p (F so) sp :=
  ⟨(w _ so (DE_Z d).1).1, DE_o d (fun Z q => (w Z so q).2) pk⟩
theorem DE_pz {B Ln : Int} {f : Int → Int} {h g : ac_H} {o p : Int} {so sp : sS} {v : Option ac_V} {vl : sS → Int} {F : sS → sS} (d : DE B Ln f h o p so sp) (w : OKz p h g v vl F) (pk : PK g) : v = some (.inl (vl sp)) ∧ DE B Ln f g o p so (F sp) := by
  obtain ⟨e, d'⟩ := DE_oz (DE_sw d) w pk
  exact ⟨e, DE_sw d'⟩
theorem DE_W {B Ln : Int} {f : Int → Int} {h : ac_H} {o p : Int} {so sp : sS} (d : DE B Ln f h o p so sp) : (CW h o ∧ h 0 o 0 = 28) ∧ (CW h p ∧ h 0 p 0 = 28) ∧ CX h o ∧ CX h p :=
  ⟨FZ_W (DE_Z d).1, FZ_W (DE_Z d).2.1, ⟨so, (DE_Z d).1⟩, ⟨sp, (DE_Z d).2.1⟩⟩
