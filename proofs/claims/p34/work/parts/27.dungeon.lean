/-! ===== a dungeon grown ===== -/
def fD (x e : Int) (R : Int → Int) : Int → Int := glD (xk x 30) (gwT x e (fun _ => 0) 15).2.2 (R 0).toNat
def fM (x e : Int) (R : Int → Int) : Int → Int := gmM (xk x (30 + 2 * (R 0).toNat)) e (R 2) (fun _ => 0) (R 1).toNat
def fT (x : Int) (R : Int → Int) : Int := gtT (xk x (30 + 2 * (R 0).toNat + 2 * (R 1).toNat)) 0 (R 3).toNat
def fX (x : Int) (R : Int → Int) : Int := xk x (30 + 2 * (R 0).toNat + 2 * (R 1).toNat + (R 3).toNat)
noncomputable def dst (f : Int → Int) (e : Int) : Int → Int := Classical.epsilon (fun far => WD f e far)
theorem dst_wd {f : Int → Int} {e : Int} {far : Int → Int} (h : WD f e far) : WD f e (dst f e) := Classical.epsilon_spec (p := fun far => WD f e far) ⟨far, h⟩
theorem dst_eq {f : Int → Int} {e : Int} {far : Int → Int} (h : WD f e far) {r : Int} (r0 : 0 ≤ r) (r1 : r < 16) : far r = dst f e r := WD_eq h (dst_wd h) r0 r1
theorem fmx_congr {f g : Int → Int} (h : ∀ r, 0 ≤ r → r < 16 → f r = g r) : ∀ n : Nat, n ≤ 15 → fmx f n = fmx g n
  | 0, _ => rfl
  | n + 1, hn => by
    have h1 := fmx_congr h n (by omega)
    have h2 := fmx_r (f := g) n
    rw [fmx, fmx, h1, h _ h2.1 (by omega), h _ (by omega) (by omega)]
/-- the stairs of the floor that is grown from x at the entry e -/
noncomputable def fS (x e : Int) (R : Int → Int) : Int := fmx (dst (fD x e R) e) 15
/-- the draw and the entry at each floor -/
noncomputable def gxe (s : Int) (R : Int → Int) : Nat → Int × Int
  | 0 => (s, 0)
  | n + 1 => (fX (gxe s R n).1 R, fS (gxe s R n).1 (gxe s R n).2 R)
theorem gwH_200 {h : ac_H} {a d : Int} : gwH h a d 200 d 0 = xk (h 200 d 0) 30 := by unfold gwH; rw [up_self]
theorem gwH_k {h : ac_H} {a d : Int} {k : Nat} {x j : Int} (h1 : k ≠ 10) (h2 : k ≠ 200) : gwH h a d k x j = h k x j := by unfold gwH; rw [up_k h2, ast_k h1]
theorem gwH_D {h : ac_H} {a d : Int} : gwH h a d 10 (h 402 a 0) = (gwT (h 200 d 0) (h 400 a 0) (h 10 (h 402 a 0)) 15).2.2 := by unfold gwH; rw [up_kf (by decide), ast_10']
theorem gwH_o {h : ac_H} {a d x : Int} (e : x ≠ h 402 a 0) : gwH h a d 10 x = h 10 x := by unfold gwH; rw [up_kf (by decide), ast_af e]
theorem glH_o {h : ac_H} {a d x : Int} {n : Nat} (e : x ≠ h 402 a 0) : glH h a d n 10 x = h 10 x := by unfold glH; rw [up_kf (by decide), ast_af e]
theorem gmH_o {h : ac_H} {a d s x : Int} {n : Nat} (e : x ≠ h 403 a 0) : gmH h a d s n 10 x = h 10 x := by unfold gmH; rw [up_kf (by decide), ast_af e]
theorem gtH_o {h : ac_H} {a d x : Int} {n : Nat} : gtH h a d n 10 x = h 10 x := by unfold gtH; rw [up_kf (by decide), up_kf (by decide)]
theorem gl_200 {h : ac_H} {a d n : Int} : gwl h a d n 200 d 0 = xk (h 200 d 0) (30 + 2 * (rul h n 0).toNat) := by
  unfold gwl; rw [glH_200, gwH_200, xk_xk]
theorem gm_200 {h : ac_H} {a d n : Int} : gwm h a d n 200 d 0 = xk (h 200 d 0) (30 + 2 * (rul h n 0).toNat + 2 * (rul h n 1).toNat) := by
  unfold gwm; rw [gmH_200, gl_200, xk_xk]
theorem gR_200 {h : ac_H} {a d n : Int} : gR h a d n 200 d 0 = fX (h 200 d 0) (rul h n) := by
  unfold gR fX; rw [gtH_200, gm_200, xk_xk]
theorem gR_D {h : ac_H} {a d n : Int} (e : h 402 a 0 ≠ h 403 a 0) (e0 : h 10 (h 402 a 0) = fun _ => 0) : gR h a d n 10 (h 402 a 0) = fD (h 200 d 0) (h 400 a 0) (rul h n) := by
  have e1 : gwH h a d 402 a 0 = h 402 a 0 := gwH_k (by decide) (by decide)
  have e2 : glH (gwH h a d) a d (rul h n 0).toNat 403 a 0 = h 403 a 0 := by rw [glH_k (by decide) (by decide), gwH_k (by decide) (by decide)]
  unfold gR gwm gwl fD
  rw [gtH_o, gmH_o (by rw [e2]; exact e)]
  have := glH_D (h := gwH h a d) (a := a) (d := d) (n := (rul h n 0).toNat)
  rw [e1, gwH_200, gwH_D, e0] at this
  exact this
theorem gR_M {h : ac_H} {a d n : Int} (e : h 402 a 0 ≠ h 403 a 0) (e0 : h 10 (h 403 a 0) = fun _ => 0) : gR h a d n 10 (h 403 a 0) = fM (h 200 d 0) (h 400 a 0) (rul h n) := by
  have e1 : gwl h a d n 403 a 0 = h 403 a 0 := by unfold gwl; rw [glH_k (by decide) (by decide), gwH_k (by decide) (by decide)]
  have e2 : gwl h a d n 400 a 0 = h 400 a 0 := by unfold gwl; rw [glH_k (by decide) (by decide), gwH_k (by decide) (by decide)]
  have e3 : gwl h a d n 10 (h 403 a 0) = h 10 (h 403 a 0) := by
    unfold gwl
    rw [glH_o (by rw [gwH_k (by decide) (by decide)]; exact Ne.symm e), gwH_o (Ne.symm e)]
  unfold gR fM
  rw [gtH_o]
  have := gmH_D (h := gwl h a d n) (a := a) (d := d) (s := rul h n 2) (n := (rul h n 1).toNat)
  rw [e1, e2, e3, gl_200, e0] at this
  exact this
theorem gR_o {h : ac_H} {a d n x : Int} (e : x ≠ h 402 a 0) (e2 : x ≠ h 403 a 0) : gR h a d n 10 x = h 10 x := by
  have e1 : gwl h a d n 403 a 0 = h 403 a 0 := by unfold gwl; rw [glH_k (by decide) (by decide), gwH_k (by decide) (by decide)]
  unfold gR gwm
  rw [gtH_o, gmH_o (by rw [e1]; exact e2)]
  unfold gwl
  rw [glH_o (by rw [gwH_k (by decide) (by decide)]; exact e), gwH_o e]
theorem gR_404 {h : ac_H} {a d n : Int} (e0 : h 404 a 0 = 0) : gR h a d n 404 a 0 = fT (h 200 d 0) (rul h n) := by
  have e1 : gwm h a d n 404 a 0 = h 404 a 0 := by unfold gwm gwl; rw [gmH_k (by decide) (by decide), glH_k (by decide) (by decide), gwH_k (by decide) (by decide)]
  unfold gR fT
  rw [gtH_404, gm_200, e1, e0]
theorem gR_404o {h : ac_H} {a d n x j : Int} (e : x ≠ a) : gR h a d n 404 x j = h 404 x j := by
  unfold gR gtH
  rw [up_k (by decide), up_a e]
  unfold gwm gwl; rw [gmH_k (by decide) (by decide), glH_k (by decide) (by decide), gwH_k (by decide) (by decide)]
theorem gR_200o {h : ac_H} {a d n x j : Int} (e : x ≠ d) : gR h a d n 200 x j = h 200 x j := by
  unfold gR gtH
  rw [up_a e, up_k (by decide)]
  unfold gwm gmH
  rw [up_a e, ast_k (by decide)]
  unfold gwl glH
  rw [up_a e, ast_k (by decide)]
  unfold gwH
  rw [up_a e, ast_k (by decide)]
/-- a floor as it was grown -/
def FGk (g : ac_H) (F e x : Int) (R : Int → Int) : Prop := FLk g F ∧ g 400 F 0 = e ∧ g 10 (g 402 F 0) = fD x e R ∧ g 10 (g 403 F 0) = fM x e R ∧ g 404 F 0 = fT x R ∧ WD (fD x e R) e (g 10 (g 405 F 0)) ∧ g 401 F 0 = fmx (g 10 (g 405 F 0)) 15
theorem FGk_of {g g' : ac_H} {F e x : Int} {R : Int → Int} (h : FGk g F e x R) (hF : ∀ k j, g' k F j = g k F j) (hA : ∀ k, (k = 402 ∨ k = 403 ∨ k = 405 ∨ k = 406) → ∀ q j, g' q (g k F 0) j = g q (g k F 0) j) : FGk g' F e x R := by
  have h2 : g' 10 (g 402 F 0) = g 10 (g 402 F 0) := by funext j; exact hA 402 (Or.inl rfl) 10 j
  have h3 : g' 10 (g 403 F 0) = g 10 (g 403 F 0) := by funext j; exact hA 403 (Or.inr (Or.inl rfl)) 10 j
  have h5 : g' 10 (g 405 F 0) = g 10 (g 405 F 0) := by funext j; exact hA 405 (Or.inr (Or.inr (Or.inl rfl))) 10 j
  unfold FGk FLk
  simp only [hF, hA 402 (Or.inl rfl), hA 403 (Or.inr (Or.inl rfl)), hA 405 (Or.inr (Or.inr (Or.inl rfl))), hA 406 (Or.inr (Or.inr (Or.inr rfl))), h2, h3, h5]
  exact h
def FRk (h g : ac_H) (F : Int) : Prop := 0 < F ∧ h 0 F 0 = 0 ∧ h 0 (g 402 F 0) 0 = 0 ∧ h 0 (g 403 F 0) 0 = 0 ∧ h 0 (g 405 F 0) 0 = 0 ∧ h 0 (g 406 F 0) 0 = 0 ∧ 0 < g 402 F 0 ∧ 0 < g 403 F 0 ∧ 0 < g 405 F 0 ∧ 0 < g 406 F 0
/-- two floors' rows are different ones -/
def DSk (g : ac_H) (F F' : Int) : Prop := F ≠ F' ∧ ∀ k k' : Nat, (k = 402 ∨ k = 403 ∨ k = 405 ∨ k = 406) → (k' = 402 ∨ k' = 403 ∨ k' = 405 ∨ k' = 406) → g k F 0 ≠ g k' F' 0
def flr (g : ac_H) (n f : Int) : Int := g 15 (g 303 n 0) f
/-- the first i floors of n are grown; what h had stays -/
def DGk (h g : ac_H) (n : Int) (i : Nat) : Prop := (∀ k a j, h 0 a 0 ≠ 0 → ¬ (k = 15 ∧ a = h 303 n 0) → g k a j = h k a j) ∧
  (∀ f : Nat, f < i → FGk g (flr g n f) (gxe (h 301 n 0) (rul h n) f).2 (gxe (h 301 n 0) (rul h n) f).1 (rul h n) ∧ FRk h g (flr g n f)) ∧ ∀ f f' : Nat, f < i → f' < i → f ≠ f' → DSk g (flr g n f) (flr g n f')
theorem FLk_401 {h : ac_H} {a b j v : Int} (hf : FLk h a) : FLk (up h 401 b j v) a := by
  simp only [FLk, up_k, ast_k, up_kf, ast_kf, ne_eq, Nat.reduceEqDiff, not_false_eq_true] at hf ⊢
  exact hf
theorem gxe_r {s : Int} {R : Int → Int} (hs : 0 ≤ s ∧ s < 65537) : ∀ n, (0 ≤ (gxe s R n).1 ∧ (gxe s R n).1 < 65537) ∧ 0 ≤ (gxe s R n).2 ∧ (gxe s R n).2 < 16
  | 0 => ⟨hs, by simp [gxe], by simp [gxe]⟩
  | n + 1 => by
    refine ⟨xk_r (gxe_r hs n).1 _, ?_⟩
    have := fmx_r (f := dst (fD (gxe s R n).1 (gxe s R n).2 R) (gxe s R n).2) 15
    exact ⟨this.1, by have h2 := this.2; show fmx _ 15 < 16; omega⟩
theorem new_floor {g : ac_H} {F b1 b2 b3 b4 e : Int} (hF : ac_new g F) (n1 : ac_new (up g 0 F 0 23) b1) (n2 : ac_new (up g 0 F 0 23) b2) (n3 : ac_new (up g 0 F 0 23) b3) (n4 : ac_new (up g 0 F 0 23) b4)
    (d12 : b1 ≠ b2) (d13 : b1 ≠ b3) (d14 : b1 ≠ b4) (d23 : b2 ≠ b3) (d24 : b2 ≠ b4) (d34 : b3 ≠ b4) (e0 : 0 ≤ e) (e1 : e < 16) {G : ac_H}
    (hG : G = up (up (up (up (up (up (up (up (up (up (up (up (up (up g 0 F 0 23) 0 b1 0 10) 1 b1 0 16) 402 F 0 b1) 0 b2 0 10) 1 b2 0 16) 403 F 0 b2) 0 b3 0 10) 1 b3 0 16) 405 F 0 b3) 0 b4 0 10) 1 b4 0 16) 406 F 0 b4) 400 F 0 e) :
    FLk G F ∧ G 402 F 0 = b1 ∧ G 403 F 0 = b2 ∧ G 405 F 0 = b3 ∧ G 406 F 0 = b4 ∧ G 400 F 0 = e ∧ G 404 F 0 = 0 ∧ G 10 b1 = (fun _ => 0) ∧ G 10 b2 = (fun _ => 0) ∧ (∀ k x j, g 0 x 0 ≠ 0 → G k x j = g k x j) ∧ ac_new g b1 ∧ ac_new g b2 ∧ ac_new g b3 ∧ ac_new g b4 := by
  obtain ⟨c1, n1⟩ := new_up n1 (by decide)
  obtain ⟨c2, n2⟩ := new_up n2 (by decide)
  obtain ⟨c3, n3⟩ := new_up n3 (by decide)
  obtain ⟨c4, n4⟩ := new_up n4 (by decide)
  have x402 : G 402 F 0 = b1 := by rw [hG]; simp [up]
  have x403 : G 403 F 0 = b2 := by rw [hG]; simp [up]
  have x405 : G 405 F 0 = b3 := by rw [hG]; simp [up]
  have x406 : G 406 F 0 = b4 := by rw [hG]; simp [up]
  have x400 : G 400 F 0 = e := by rw [hG]; simp [up]
  refine ⟨?_, x402, x403, x405, x406, x400, ?_, ?_, ?_, ?_, n1, n2, n3, n4⟩
  · unfold FLk
    rw [x402, x403, x405, x406, x400]
    refine ⟨?_, e0, e1, ?_, ?_, ?_, ?_, ?_, ?_, ?_, ?_, d12, d13, d14, d23, d24, d34⟩
    · rw [hG]; simp [up, Ne.symm c1, Ne.symm c2, Ne.symm c3, Ne.symm c4]
    all_goals
      rw [hG]; simp [up, d12, d13, d14, d23, d24, d34, c1, c2, c3, c4]
  · rw [hG]; simp [up, hF.2]
  · funext j; rw [hG]; simp [up, n1.2]
  · funext j; rw [hG]; simp [up, n2.2]
  · intro k x j hx
    have y0 := new_ne hF hx
    have y1 := new_ne n1 hx
    have y2 := new_ne n2 hx
    have y3 := new_ne n3 hx
    have y4 := new_ne n4 hx
    rw [hG]
    simp [up, y0, y1, y2, y3, y4]
/-- one floor more -/
theorem DGk_step {h g G h2 : ac_H} {n c F b1 b2 b3 b4 : Int} {far : Int → Int} {i : Nat} (hr : RUk h n) (hs : 0 ≤ h 301 n 0 ∧ h 301 n 0 < 65537) (a1 : h 0 (h 303 n 0) 0 = 15) (hg : DGk h g n i) (c0 : h 0 c 0 = 0) (c1 : g 0 c 0 = 21) (c2 : g 200 c 0 = (gxe (h 301 n 0) (rul h n) i).1)
    (hF : ac_new g F) (f1 : FLk G F) (f2 : G 402 F 0 = b1) (f3 : G 403 F 0 = b2) (f4 : G 405 F 0 = b3) (f5 : G 406 F 0 = b4) (f6 : G 400 F 0 = (gxe (h 301 n 0) (rul h n) i).2) (f7 : G 404 F 0 = 0) (f8 : G 10 b1 = fun _ => 0) (f9 : G 10 b2 = fun _ => 0) (f10 : ∀ k x j, g 0 x 0 ≠ 0 → G k x j = g k x j) (n1 : ac_new g b1) (n2 : ac_new g b2) (n3 : ac_new g b3) (n4 : ac_new g b4)
    (w : WD (gR G F c n 10 b1) (gxe (h 301 n 0) (rul h n) i).2 far) (q : ag h2 (up (ast (gR G F c n) b3 far) 401 F 0 (fmx far 15))) :
    (∀ k x j, g 0 x 0 ≠ 0 → x ≠ c → h2 k x j = g k x j) ∧ h2 0 F 0 = 23 ∧ h2 401 F 0 = (gxe (h 301 n 0) (rul h n) (i + 1)).2 ∧ h2 200 c 0 = (gxe (h 301 n 0) (rul h n) (i + 1)).1 ∧ h2 0 c 0 = 21 ∧ DGk h (up h2 15 (h 303 n 0) i F) n (i + 1) := by
  obtain ⟨r1, r2, r3, r4⟩ := id hr
  obtain ⟨g1, g2, g3⟩ := hg
  have gn : g 0 n 0 = 22 := by rw [g1 0 n 0 (by omega) (by omega)]; exact r1
  have g303 : g 303 n 0 = h 303 n 0 := g1 303 n 0 (by omega) (by omega)
  have g302 : g 302 n 0 = h 302 n 0 := g1 302 n 0 (by omega) (by omega)
  have gFA : g 0 (h 303 n 0) 0 = 15 := by rw [g1 0 _ 0 (by omega) (by omega)]; exact a1
  have rG : rul G n = rul h n := by
    funext z
    unfold rul
    rw [f10 302 n 0 (by omega), g302, f10 10 _ z (by rw [g1 0 _ 0 (by omega) (by omega)]; omega), g1 10 _ z (by omega) (by omega)]
  have d12 : b1 ≠ b2 := by have := f1.2.2.2.2.2.2.2.2.2.2.2.1; rw [f2, f3] at this; exact this
  have d13 : b1 ≠ b3 := by have := f1.2.2.2.2.2.2.2.2.2.2.2.2.1; rw [f2, f4] at this; exact this
  have d23 : b2 ≠ b3 := by have := f1.2.2.2.2.2.2.2.2.2.2.2.2.2.2.1; rw [f3, f4] at this; exact this
  have G200 : G 200 c 0 = (gxe (h 301 n 0) (rul h n) i).1 := by rw [f10 200 c 0 (by omega)]; exact c2
  have Fc : F ≠ c := fun e => by have := hF.2 0 0; rw [e, c1] at this; omega
  have old : ∀ k x j, g 0 x 0 ≠ 0 → x ≠ c → h2 k x j = g k x j := by
    intro k x j hx xc
    have yF := new_ne hF hx
    have y1 := new_ne n1 hx
    have y2 := new_ne n2 hx
    have y3 := new_ne n3 hx
    have e1 : ∀ k' : Nat, gR G F c n k' x j = g k' x j := by
      intro k'
      by_cases e10 : k' = 10
      · subst e10
        rw [gR_o (by rw [f2]; exact y1) (by rw [f3]; exact y2), f10 10 x j hx]
      · by_cases e2 : k' = 200
        · subst e2; rw [gR_200o xc, f10 _ x j hx]
        · by_cases e3 : k' = 404
          · subst e3; rw [gR_404o yF, f10 _ x j hx]
          · rw [gR_k e10 e2 e3, f10 _ x j hx]
    rw [q k x j ?_]
    · rw [up_a yF, ast_a y3, e1]
    · rw [up_k (by decide), ast_k (by decide), gR_k (by decide) (by decide) (by decide), f10 0 x 0 hx]; exact hx
  have f0 : G 0 F 0 = 23 := f1.1
  have qF : ∀ k j, h2 k F j = up (ast (gR G F c n) b3 far) 401 F 0 (fmx far 15) k F j := fun k j => q k F j (by
    rw [up_k (by decide), ast_k (by decide), gR_k (by decide) (by decide) (by decide), f0]; decide)
  have H402 : gR G F c n 402 F 0 = b1 := by rw [gR_k (by decide) (by decide) (by decide), f2]
  have H403 : gR G F c n 403 F 0 = b2 := by rw [gR_k (by decide) (by decide) (by decide), f3]
  have H405 : gR G F c n 405 F 0 = b3 := by rw [gR_k (by decide) (by decide) (by decide), f4]
  have H406 : gR G F c n 406 F 0 = b4 := by rw [gR_k (by decide) (by decide) (by decide), f5]
  have H400 : gR G F c n 400 F 0 = (gxe (h 301 n 0) (rul h n) i).2 := by rw [gR_k (by decide) (by decide) (by decide), f6]
  have HD : gR G F c n 10 b1 = fD (gxe (h 301 n 0) (rul h n) i).1 (gxe (h 301 n 0) (rul h n) i).2 (rul h n) := by
    have := gR_D (h := G) (a := F) (d := c) (n := n) (by rw [f2, f3]; exact d12) (by rw [f2]; exact f8)
    rw [f2, f6, G200, rG] at this; exact this
  have HM : gR G F c n 10 b2 = fM (gxe (h 301 n 0) (rul h n) i).1 (gxe (h 301 n 0) (rul h n) i).2 (rul h n) := by
    have := gR_M (h := G) (a := F) (d := c) (n := n) (by rw [f2, f3]; exact d12) (by rw [f3]; exact f9)
    rw [f3, f6, G200, rG] at this; exact this
  have HT : gR G F c n 404 F 0 = fT (gxe (h 301 n 0) (rul h n) i).1 (rul h n) := by
    rw [gR_404 f7, G200, rG]
  have HX : gR G F c n 200 c 0 = (gxe (h 301 n 0) (rul h n) (i + 1)).1 := by
    rw [gR_200, G200, rG]; rfl
  rw [HD] at w
  have HF : FGk (up (ast (gR G F c n) b3 far) 401 F 0 (fmx far 15)) F (gxe (h 301 n 0) (rul h n) i).2 (gxe (h 301 n 0) (rul h n) i).1 (rul h n) := by
    refine ⟨FLk_401 (FLk_ast (FLk_gt (FLk_gm (FLk_gl (FLk_gw f1))))), ?_, ?_, ?_, ?_, ?_, ?_⟩
    · simp only [up_k, ast_k, up_kf, ast_kf, ne_eq, Nat.reduceEqDiff, not_false_eq_true]; exact H400
    · simp only [up_k, ast_k, up_kf, ast_kf, ne_eq, Nat.reduceEqDiff, not_false_eq_true, H402, ast_af d13]; exact HD
    · simp only [up_k, ast_k, up_kf, ast_kf, ne_eq, Nat.reduceEqDiff, not_false_eq_true, H403, ast_af d23]; exact HM
    · simp only [up_k, ast_k, up_kf, ast_kf, ne_eq, Nat.reduceEqDiff, not_false_eq_true]; exact HT
    · simp only [up_k, ast_k, up_kf, ast_kf, ne_eq, Nat.reduceEqDiff, not_false_eq_true, H405, ast_10']; exact w
    · simp only [up_k, ast_k, up_kf, ast_kf, ne_eq, Nat.reduceEqDiff, not_false_eq_true, H405, ast_10', up_self]
  have st : fmx far 15 = (gxe (h 301 n 0) (rul h n) (i + 1)).2 := fmx_congr (fun r r0 r1 => dst_eq w r0 r1) 15 (by omega)
  have HF2 : FGk h2 F (gxe (h 301 n 0) (rul h n) i).2 (gxe (h 301 n 0) (rul h n) i).1 (rul h n) := by
    refine FGk_of HF qF fun k hk z j => q z _ j ?_
    obtain ⟨l1, l2, l3, l4, l5, l6, l7, l8, l9, l10, -⟩ := HF.1
    rcases hk with rfl | rfl | rfl | rfl
    · rw [l4]; decide
    · rw [l6]; decide
    · rw [l8]; decide
    · rw [l10]; decide
  have p402 : h2 402 F 0 = b1 := by rw [qF]; simp only [up_k, ast_k, up_kf, ast_kf, ne_eq, Nat.reduceEqDiff, not_false_eq_true]; exact H402
  have p403 : h2 403 F 0 = b2 := by rw [qF]; simp only [up_k, ast_k, up_kf, ast_kf, ne_eq, Nat.reduceEqDiff, not_false_eq_true]; exact H403
  have p405 : h2 405 F 0 = b3 := by rw [qF]; simp only [up_k, ast_k, up_kf, ast_kf, ne_eq, Nat.reduceEqDiff, not_false_eq_true]; exact H405
  have p406 : h2 406 F 0 = b4 := by rw [qF]; simp only [up_k, ast_k, up_kf, ast_kf, ne_eq, Nat.reduceEqDiff, not_false_eq_true]; exact H406
  have h2FA : h2 303 n 0 = h 303 n 0 := by rw [old 303 n 0 (by omega) (fun e => by rw [e, c1] at gn; omega), g303]
  have FAc : h 303 n 0 ≠ c := fun e => by rw [e, c1] at gFA; omega
  have h0 : ∀ x, h 0 x 0 ≠ 0 → g 0 x 0 ≠ 0 := fun x hx => by rw [g1 0 x 0 hx (by omega)]; exact hx
  have frs : ∀ x, ac_new g x → h 0 x 0 = 0 := fun x hx => by
    by_cases e : h 0 x 0 = 0
    · exact e
    · exact absurd (hx.2 0 0) (h0 x e)
  have lf : ∀ f : Nat, f < i → flr (up h2 15 (h 303 n 0) i F) n f = flr g n f := fun f hf => by
    unfold flr
    rw [show up h2 15 (h 303 n 0) i F 303 n 0 = h 303 n 0 by rw [up_k (by decide), h2FA], up_j (show (f : Int) ≠ i by omega), old 15 _ _ (by omega) FAc, g303]
  have li : flr (up h2 15 (h 303 n 0) i F) n i = F := by
    unfold flr
    rw [show up h2 15 (h 303 n 0) i F 303 n 0 = h 303 n 0 by rw [up_k (by decide), h2FA], up_self]
  have al : ∀ f : Nat, f < i → (∀ k j, h2 k (flr g n f) j = g k (flr g n f) j) ∧ (∀ k, (k = 402 ∨ k = 403 ∨ k = 405 ∨ k = 406) → g 0 (g k (flr g n f) 0) 0 = 10 ∧ ∀ z j, h2 z (g k (flr g n f) 0) j = g z (g k (flr g n f) 0) j) := fun f hf => by
    obtain ⟨l1, l2, l3, l4, l5, l6, l7, l8, l9, l10, -⟩ := (g2 f hf).1.1
    have aux : ∀ x, g 0 x 0 = 10 → g 0 x 0 = 10 ∧ ∀ z j, h2 z x j = g z x j := fun x hx => ⟨hx, fun z j => old z x j (by omega) (fun e => by rw [e, c1] at hx; omega)⟩
    refine ⟨fun k j => old k _ j (by omega) (fun e => by rw [e, c1] at l1; omega), fun k hk => ?_⟩
    rcases hk with rfl | rfl | rfl | rfl
    · exact aux _ l4
    · exact aux _ l6
    · exact aux _ l8
    · exact aux _ l10
  have u15 : ∀ k x j, k ≠ 15 → up h2 15 (h 303 n 0) i F k x j = h2 k x j := fun k x j e => up_k e
  have uF : ∀ k j, up h2 15 (h 303 n 0) i F k F j = h2 k F j := fun k j => up_a (fun e => by rw [← e] at gFA; rw [hF.2 0 0] at gFA; omega)
  have ux : ∀ k x j, g 0 x 0 = 10 ∨ g 0 x 0 = 23 → up h2 15 (h 303 n 0) i F k x j = h2 k x j := fun k x j e => up_a (fun e2 => by rw [e2, gFA] at e; omega)
  have ub : ∀ k x j, ac_new g x → up h2 15 (h 303 n 0) i F k x j = h2 k x j := fun k x j e => up_a (fun e2 => by rw [e2] at e; rw [e.2 0 0] at gFA; omega)
  refine ⟨old, by rw [qF, up_k (by decide), ast_k (by decide), gR_k (by decide) (by decide) (by decide), f0], ?_, ?_, ?_, ?_, ?_, ?_⟩
  · rw [qF, up_self, st]
  · rw [q 200 c 0 ?_]
    · simp only [up_k, ast_k, up_kf, ast_kf, ne_eq, Nat.reduceEqDiff, not_false_eq_true]; exact HX
    · rw [up_k (by decide), ast_k (by decide), gR_k (by decide) (by decide) (by decide), f10 0 c 0 (by omega), c1]; decide
  · rw [q 0 c 0 ?_]
    · rw [up_k (by decide), ast_k (by decide), gR_k (by decide) (by decide) (by decide), f10 0 c 0 (by omega), c1]
    · rw [up_k (by decide), ast_k (by decide), gR_k (by decide) (by decide) (by decide), f10 0 c 0 (by omega), c1]; decide
  · intro k a j ha hk
    rw [up_ne (fun e => hk ⟨e.1, e.2.1⟩), old k a j (h0 a ha) (fun e => by rw [e, c0] at ha; exact ha rfl)]
    exact g1 k a j ha hk
  · intro f hf
    by_cases e : f = i
    · subst e
      rw [li]
      refine ⟨FGk_of HF2 uF fun k hk z j => ?_, hF.1, frs _ hF, ?_, ?_, ?_, ?_, by rw [uF, p402]; exact n1.1, by rw [uF, p403]; exact n2.1, by rw [uF, p405]; exact n3.1, by rw [uF, p406]; exact n4.1⟩
      · rcases hk with rfl | rfl | rfl | rfl
        · rw [p402]; exact ub _ _ _ n1
        · rw [p403]; exact ub _ _ _ n2
        · rw [p405]; exact ub _ _ _ n3
        · rw [p406]; exact ub _ _ _ n4
      · rw [uF, p402]; exact frs _ n1
      · rw [uF, p403]; exact frs _ n2
      · rw [uF, p405]; exact frs _ n3
      · rw [uF, p406]; exact frs _ n4
    · have hf' : f < i := by omega
      rw [lf f hf']
      obtain ⟨m1, m2⟩ := al f hf'
      obtain ⟨v1, v2⟩ := g2 f hf'
      have v0 : g 0 (flr g n f) 0 = 23 := v1.1.1
      have uf : ∀ k j, up h2 15 (h 303 n 0) i F k (flr g n f) j = g k (flr g n f) j := fun k j => by rw [ux k _ j (Or.inr v0), m1]
      refine ⟨FGk_of v1 uf fun k hk z j => by rw [ux z _ j (Or.inl (m2 k hk).1), (m2 k hk).2], ?_⟩
      obtain ⟨w1, w2, w3, w4, w5, w6, w7, w8, w9, w10⟩ := v2
      refine ⟨w1, w2, ?_, ?_, ?_, ?_, ?_, ?_, ?_, ?_⟩
      all_goals rw [uf]; assumption
  · intro f f' hf hf' hne
    by_cases e : f = i
    · subst e
      have hf2 : f' < f := by omega
      rw [li, lf f' hf2]
      obtain ⟨m1, m2⟩ := al f' hf2
      have v0 : g 0 (flr g n f') 0 = 23 := (g2 f' hf2).1.1.1
      refine ⟨Ne.symm (new_ne hF (by rw [v0]; decide)), fun k k' hk hk' => ?_⟩
      rw [uF, ux k' _ _ (Or.inr v0), m1]
      have m3 := (m2 k' hk').1
      rcases hk with rfl | rfl | rfl | rfl
      · rw [p402]; exact Ne.symm (new_ne n1 (by rw [m3]; decide))
      · rw [p403]; exact Ne.symm (new_ne n2 (by rw [m3]; decide))
      · rw [p405]; exact Ne.symm (new_ne n3 (by rw [m3]; decide))
      · rw [p406]; exact Ne.symm (new_ne n4 (by rw [m3]; decide))
    · have hf2 : f < i := by omega
      by_cases e2 : f' = i
      · subst e2
        rw [li, lf f hf2]
        obtain ⟨m1, m2⟩ := al f hf2
        have v0 : g 0 (flr g n f) 0 = 23 := (g2 f hf2).1.1.1
        refine ⟨new_ne hF (by rw [v0]; decide), fun k k' hk hk' => ?_⟩
        rw [uF, ux k _ _ (Or.inr v0), m1]
        have m3 := (m2 k hk).1
        rcases hk' with rfl | rfl | rfl | rfl
        · rw [p402]; exact new_ne n1 (by rw [m3]; decide)
        · rw [p403]; exact new_ne n2 (by rw [m3]; decide)
        · rw [p405]; exact new_ne n3 (by rw [m3]; decide)
        · rw [p406]; exact new_ne n4 (by rw [m3]; decide)
      · have hf3 : f' < i := by omega
        rw [lf f hf2, lf f' hf3]
        have v0 : g 0 (flr g n f) 0 = 23 := (g2 f hf2).1.1.1
        have v1 : g 0 (flr g n f') 0 = 23 := (g2 f' hf3).1.1.1
        obtain ⟨x1, x2⟩ := g3 f f' hf2 hf3 hne
        refine ⟨x1, fun k k' hk hk' => ?_⟩
        rw [ux k _ _ (Or.inr v0), ux k' _ _ (Or.inr v1), (al f hf2).1, (al f' hf3).1]
        exact x2 k k' hk hk'
def spX2_grow : ac_Sp := sc_R (fun n h => RUk h n ∧ 0 ≤ h 301 n 0 ∧ h 301 n 0 < 65537 ∧ h 0 (h 303 n 0) 0 = 15 ∧ h 1 (h 303 n 0) 0 = 3) (fun n h v h' => v = none ∧ DGk h h' n 3) (fun _ _ _ _ => False)
def ivX2_grow (n : Int) (h : ac_H) : Nat → Nat → ac_S := fun j m => match j with
  | 0 => fun L S g k nn => m = 1000 ∧ ent0 [some (.inr (.inl n)), none, none, none, none] h L S g k nn
  | 1 => fun L S g k nn => ∃ (c : Int) (i : Nat) (o4 : Option ac_V), i ≤ 3 ∧ m = 3 - i ∧ DGk h g n i ∧ h 0 c 0 = 0 ∧ g 0 c 0 = 21 ∧ g 200 c 0 = (gxe (h 301 n 0) (rul h n) i).1 ∧ L = [some (.inr (.inl n)), some (.inr (.inl c)), some (.inl (gxe (h 301 n 0) (rul h n) i).2), some (.inl i), o4] ∧ S = [] ∧ k = 1 + 6 * i ∧ nn = 1 + 87 * i
  | _ => fun _ _ _ _ _ => False
set_option maxRecDepth 100000 in
set_option maxHeartbeats 4000000 in
theorem mtX2_grow {G : ac_G} {l : Launch} : ac_Met G l yX2_grow mX2_grow 4 99 22 310 spX2_grow := by
  refine ac_meth (pcs := pcX2_grow) (B := fun P X J j => vcX2_grow spX1_init spX3_init spX3_grow P X J j) (by decide) rfl rfl rfl (fun P X J hJ j => sdX2_grow mtX1_init mtX3_init mtX3_grow hvX1_init hvX3_init P X J hJ j) (hp_R (by decide)) fun As h hp => ?_
  obtain ⟨n, rfl, hp⟩ := sh_R_inv hp
  obtain ⟨hr, s0, s1, a1, a2⟩ := hp
  obtain ⟨r1, r2, r3, r4⟩ := id hr
  refine ⟨ivX2_grow n h, 1000, ⟨rfl, rfl, rfl, rfl, rfl, rfl⟩, fun j m L S g k nn hI => ?_⟩
  match j, hI with
  | 0, hI =>
    obtain ⟨hm, rfl, rfl, rfl, rfl, rfl⟩ := hI
    simp only [spX2_grow, vcX2_grow, mX2_grow, spX1_init, spX3_init, spX3_grow, ac_ent, ldI, ldR, stI, stR, inc, cI, cJ, cN, bop, oAdd, oSub, oMul, oAnd, oOr, oXor, oShl, oShr, oUshr, oRem, oDiv, oMx, oMn, oI2l, oLcmp, oDup, oDup2, oDupX1, oPop, bIc, bI0, bNul, getI, getR, putI, putZ, putR, aLen, aldI, aldZ, aldJ, aldR, astI, astZ, astJ, astR, nwO, nwA, gsT, oObj, oCpy, oCln, oCst, rtI, rtZ, rtR, rtV, thr, call, callH, ac_hsel, ac_as, ac_rs, ac_cs, ac_rcv, List.map_cons, List.map_nil, List.length_cons, List.length_nil, List.replicate, List.append_nil, List.cons_append, List.nil_append, List.getElem?_cons_zero, List.getElem?_cons_succ, List.set, Nat.zero_add, Nat.add_zero, Nat.le_refl, Nat.reduceAdd, Nat.reduceSub, Nat.reduceLeDiff, Int.reduceLT, Int.reduceLE, Int.reduceNeg, Int.reduceEq, true_and, and_true, true_or, or_true, not_true_eq_false, not_false_eq_true, false_implies, true_implies, implies_true, reduceIte, and_self, Int.reduceAdd, Int.reduceMul, Int.reduceSub, eq_self, Int.add_zero, Int.zero_add, String.reduceEq, Nat.zero_le, Option.some.injEq, Sum.inl.injEq, Sum.inr.injEq, reduceCtorEq, Int.reduceToNat, Option.toList_some, Option.toList_none, ac_cs, ac_c10, ac_c11, ac_c12, ac_c13, ac_c14, ac_c15, ac_c16, ac_c17, sc_E, sh_E, sc_I, sh_I, sc_II, sh_II, sc_III, sh_III, sc_R, sh_R, sc_RI, sh_RI, sc_RII, sh_RII, sc_RIII, sh_RIII, sc_RIIII, sh_RIIII, sc_RR, sh_RR, sc_RRI, sh_RRI, sc_RRR, sh_RRR, sc_RIR, sh_RIR, sc_RIRI, sh_RIRI, sc_RRII, sh_RRII, sc_RRIII, sh_RRIII, sc_RIIRR, sh_RIIRR, sc_RIIIRR, sh_RIIIRR, sc_RIIR, sh_RIIR, sc_RRIIR, sh_RRIIR, sc_RRIIIR, sh_RRIIIR, sc_RRIIIIR, sh_RRIIIIR, sc_RRIR, sh_RRIR, r1]
    intro c hc
    have nc : n ≠ c := new_ne hc (by rw [r1]; decide)
    refine ⟨by rw [up_a nc]; exact r1, ⟨hc.1, up_self ..⟩, ?_⟩
    rintro v h' ⟨rfl, rfl⟩
    refine ⟨3, by omega, c, 0, none, by omega, by omega, ⟨fun k a j ha hk => ?_, fun f hf => absurd hf (by omega), fun f f' hf => absurd hf (by omega)⟩, hc.2 0 0, ?_, ?_, rfl, rfl, rfl, rfl⟩
    · have := new_ne hc ha
      rw [up_a this, up_a this]
    · rw [up_k (by decide), up_self]
    · rw [up_self, up_k (by decide)]; rfl
  | 1, hI =>
    obtain ⟨c, i, o4, i3, hm, hg, c0, c1, c2, rfl, rfl, rfl, rfl⟩ := hI
    simp only [spX2_grow, vcX2_grow, mX2_grow, spX1_init, spX3_init, spX3_grow, ac_ent, ldI, ldR, stI, stR, inc, cI, cJ, cN, bop, oAdd, oSub, oMul, oAnd, oOr, oXor, oShl, oShr, oUshr, oRem, oDiv, oMx, oMn, oI2l, oLcmp, oDup, oDup2, oDupX1, oPop, bIc, bI0, bNul, getI, getR, putI, putZ, putR, aLen, aldI, aldZ, aldJ, aldR, astI, astZ, astJ, astR, nwO, nwA, gsT, oObj, oCpy, oCln, oCst, rtI, rtZ, rtR, rtV, thr, call, callH, ac_hsel, ac_as, ac_rs, ac_cs, ac_rcv, List.map_cons, List.map_nil, List.length_cons, List.length_nil, List.replicate, List.append_nil, List.cons_append, List.nil_append, List.getElem?_cons_zero, List.getElem?_cons_succ, List.set, Nat.zero_add, Nat.add_zero, Nat.le_refl, Nat.reduceAdd, Nat.reduceSub, Nat.reduceLeDiff, Int.reduceLT, Int.reduceLE, Int.reduceNeg, Int.reduceEq, true_and, and_true, true_or, or_true, not_true_eq_false, not_false_eq_true, false_implies, true_implies, implies_true, reduceIte, and_self, Int.reduceAdd, Int.reduceMul, Int.reduceSub, eq_self, Int.add_zero, Int.zero_add, String.reduceEq, Nat.zero_le, Option.some.injEq, Sum.inl.injEq, Sum.inr.injEq, reduceCtorEq, Int.reduceToNat, Option.toList_some, Option.toList_none, ac_cs, ac_c10, ac_c11, ac_c12, ac_c13, ac_c14, ac_c15, ac_c16, ac_c17, sc_E, sh_E, sc_I, sh_I, sc_II, sh_II, sc_III, sh_III, sc_R, sh_R, sc_RI, sh_RI, sc_RII, sh_RII, sc_RIII, sh_RIII, sc_RIIII, sh_RIIII, sc_RR, sh_RR, sc_RRI, sh_RRI, sc_RRR, sh_RRR, sc_RIR, sh_RIR, sc_RIRI, sh_RIRI, sc_RRII, sh_RRII, sc_RRIII, sh_RRIII, sc_RIIRR, sh_RIIRR, sc_RIIIRR, sh_RIIIRR, sc_RIIR, sh_RIIR, sc_RRIIR, sh_RRIIR, sc_RRIIIR, sh_RRIIIR, sc_RRIIIIR, sh_RRIIIIR, sc_RRIR, sh_RRIR, up_k, ast_k, up_kf, ast_kf, ne_eq, Nat.reduceEqDiff, not_false_eq_true]
    refine ⟨fun q => ?_, fun q => ⟨by omega, fun F hF => ⟨by omega, ⟨hF.1, up_self ..⟩, ?_⟩⟩⟩
    · have : i = 3 := by omega
      subst this
      exact ⟨hg, by omega, by omega⟩
    · rintro v G ⟨rfl, b1, b2, b3, b4, m1, m2, m3, m4, d12, d13, d14, d23, d24, d34, hG⟩
      obtain ⟨x0, e0, e1⟩ := gxe_r (s := h 301 n 0) (R := rul h n) ⟨s0, s1⟩ i
      obtain ⟨f1, f2, f3, f4, f5, f6, f7, f8, f9, f10, n1, n2, n3, n4⟩ := new_floor hF m1 m2 m3 m4 d12 d13 d14 d23 d24 d34 e0 e1 hG
      clear hG
      have g0 : ∀ x, h 0 x 0 ≠ 0 → g 0 x 0 = h 0 x 0 := fun x hx => hg.1 0 x 0 hx (by omega)
      have hn0 : g 0 n 0 = 22 := by rw [g0 n (by omega)]; exact r1
      have g302 : g 302 n 0 = h 302 n 0 := hg.1 302 n 0 (by omega) (by omega)
      have gru : g 0 (h 302 n 0) 0 = 10 := by rw [g0 _ (by omega)]; exact r2
      have hr2 : RUk G n := by
        unfold RUk rul
        rw [f10 302 n 0 (by omega), g302]
        simp only [f10 0 n 0 (by omega), f10 0 (h 302 n 0) 0 (by omega), f10 1 (h 302 n 0) 0 (by omega), fun j => f10 10 (h 302 n 0) j (by omega), hg.1 1 (h 302 n 0) 0 (by omega) (by omega), fun j => hg.1 10 (h 302 n 0) j (by omega) (by omega), hn0, gru]
        exact ⟨trivial, trivial, r3, r4⟩
      have y1 : h 302 n 0 ≠ b1 := new_ne n1 (by rw [gru]; decide)
      have y2 : h 302 n 0 ≠ b2 := new_ne n2 (by rw [gru]; decide)
      simp only [ac_ent, ldI, ldR, stI, stR, inc, cI, cJ, cN, bop, oAdd, oSub, oMul, oAnd, oOr, oXor, oShl, oShr, oUshr, oRem, oDiv, oMx, oMn, oI2l, oLcmp, oDup, oDup2, oDupX1, oPop, bIc, bI0, bNul, getI, getR, putI, putZ, putR, aLen, aldI, aldZ, aldJ, aldR, astI, astZ, astJ, astR, nwO, nwA, gsT, oObj, oCpy, oCln, oCst, rtI, rtZ, rtR, rtV, thr, call, callH, ac_hsel, ac_as, ac_rs, ac_cs, ac_rcv, List.map_cons, List.map_nil, List.length_cons, List.length_nil, List.replicate, List.append_nil, List.cons_append, List.nil_append, List.getElem?_cons_zero, List.getElem?_cons_succ, List.set, Nat.zero_add, Nat.add_zero, Nat.le_refl, Nat.reduceAdd, Nat.reduceSub, Nat.reduceLeDiff, Int.reduceLT, Int.reduceLE, Int.reduceNeg, Int.reduceEq, true_and, and_true, true_or, or_true, not_true_eq_false, not_false_eq_true, false_implies, true_implies, implies_true, reduceIte, and_self, Int.reduceAdd, Int.reduceMul, Int.reduceSub, eq_self, Int.add_zero, Int.zero_add, String.reduceEq, Nat.zero_le, Option.some.injEq, Sum.inl.injEq, Sum.inr.injEq, reduceCtorEq, Int.reduceToNat, Option.toList_some, Option.toList_none, ac_cs, ac_c10, ac_c11, ac_c12, ac_c13, ac_c14, ac_c15, ac_c16, ac_c17, sc_E, sh_E, sc_I, sh_I, sc_II, sh_II, sc_III, sh_III, sc_R, sh_R, sc_RI, sh_RI, sc_RII, sh_RII, sc_RIII, sh_RIII, sc_RIIII, sh_RIIII, sc_RR, sh_RR, sc_RRI, sh_RRI, sc_RRR, sh_RRR, sc_RIR, sh_RIR, sc_RIRI, sh_RIRI, sc_RRII, sh_RRII, sc_RRIII, sh_RRIII, sc_RIIRR, sh_RIIRR, sc_RIIIRR, sh_RIIIRR, sc_RIIR, sh_RIIR, sc_RRIIR, sh_RRIIR, sc_RRIIIR, sh_RRIIIR, sc_RRIIIIR, sh_RRIIIIR, sc_RRIR, sh_RRIR]
      refine ⟨⟨f1.1, by omega, by omega⟩, ⟨f1, ⟨by rw [f10 0 c 0 (by omega)]; exact c1, by rw [f10 200 c 0 (by omega), c2]; exact x0⟩, hr2, by rw [f10 302 n 0 (by omega), g302, f2]; exact y1, by rw [f10 302 n 0 (by omega), g302, f3]; exact y2⟩, ?_⟩
      rintro v h2 ⟨rfl, far, w, q2⟩
      rw [f2, f6] at w
      rw [f4] at q2
      obtain ⟨z1, z2, z3, z4, z6, z5⟩ := DGk_step hr ⟨s0, s1⟩ a1 hg c0 c1 c2 hF f1 f2 f3 f4 f5 f6 f7 f8 f9 f10 n1 n2 n3 n4 w q2
      have nc : n ≠ c := fun e => by rw [e, c1] at hn0; omega
      have gFA : g 0 (h 303 n 0) 0 = 15 := by rw [g0 _ (by omega)]; exact a1
      have FAc : h 303 n 0 ≠ c := fun e => by rw [e, c1] at gFA; omega
      have gFA1 : g 1 (h 303 n 0) 0 = 3 := by rw [hg.1 1 _ 0 (by omega) (by omega)]; exact a2
      have e303 : h2 303 n 0 = h 303 n 0 := by rw [z1 303 n 0 (by omega) nc, hg.1 303 n 0 (by omega) (by omega)]
      rw [e303, z1 0 n 0 (by omega) nc, z1 0 _ 0 (by omega) FAc, z1 1 _ 0 (by omega) FAc, hn0, gFA, gFA1, z2, z3]
      simp (disch := omega) only [wr_of]
      refine ⟨trivial, ⟨trivial, by omega, by omega, trivial⟩, trivial, 3 - (i + 1), by omega, c, i + 1, _, by omega, by omega, z5, c0, ?_, ?_, rfl, rfl, by omega, by omega⟩
      · rw [up_k (by decide)]; exact z6
      · rw [up_k (by decide)]; exact z4
  | j + 2, hI => exact hI.elim
