/-! ===== a dungeon had ===== -/
def q4 (R R' : Int → Int) : Prop := R 0 = R' 0 ∧ R 1 = R' 1 ∧ R 2 = R' 2 ∧ R 3 = R' 3
theorem fD_c {x e : Int} {R R' : Int → Int} (h : q4 R R') : fD x e R = fD x e R' := by unfold fD; rw [h.1]
theorem fM_c {x e : Int} {R R' : Int → Int} (h : q4 R R') : fM x e R = fM x e R' := by unfold fM; rw [h.1, h.2.1, h.2.2.1]
theorem fT_c {x : Int} {R R' : Int → Int} (h : q4 R R') : fT x R = fT x R' := by unfold fT; rw [h.1, h.2.1, h.2.2.2]
theorem fX_c {x : Int} {R R' : Int → Int} (h : q4 R R') : fX x R = fX x R' := by unfold fX; rw [h.1, h.2.1, h.2.2.2]
theorem fS_c {x e : Int} {R R' : Int → Int} (h : q4 R R') : fS x e R = fS x e R' := by unfold fS; rw [fD_c h]
theorem gxe_c {s : Int} {R R' : Int → Int} (h : q4 R R') : ∀ n, gxe s R n = gxe s R' n
  | 0 => rfl
  | n + 1 => by rw [gxe, gxe, gxe_c h n, fX_c h, fS_c h]
/-- the state with today's dungeon had -/
noncomputable def FDun (s : sS) : sS := fun k i j =>
  if k = 11 ∧ i = 0 ∧ j = 0 then s 11 0 0 + 1
  else if k = 12 ∧ i = s 11 0 0 ∧ j = 0 then s 7 0 0
  else if k = 13 ∧ i = s 11 0 0 then tdR s j
  else if k = 14 ∧ 3 * s 11 0 0 ≤ i ∧ i < 3 * s 11 0 0 + 3 then fD (gxe (s 7 0 0) (tdR s) (i - 3 * s 11 0 0).toNat).1 (gxe (s 7 0 0) (tdR s) (i - 3 * s 11 0 0).toNat).2 (tdR s) j
  else if k = 15 ∧ 3 * s 11 0 0 ≤ i ∧ i < 3 * s 11 0 0 + 3 then fM (gxe (s 7 0 0) (tdR s) (i - 3 * s 11 0 0).toNat).1 (gxe (s 7 0 0) (tdR s) (i - 3 * s 11 0 0).toNat).2 (tdR s) j
  else if k = 16 ∧ (3 * s 11 0 0 ≤ i ∧ i < 3 * s 11 0 0 + 3) ∧ j = 0 then fT (gxe (s 7 0 0) (tdR s) (i - 3 * s 11 0 0).toNat).1 (tdR s)
  else if k = 17 ∧ (3 * s 11 0 0 ≤ i ∧ i < 3 * s 11 0 0 + 3) ∧ j = 0 then (gxe (s 7 0 0) (tdR s) ((i - 3 * s 11 0 0).toNat + 1)).2
  else s k i j
theorem FDun_k {s : sS} {k : Nat} (h : k < 11 ∨ 17 < k) : FDun s k = s k := by
  funext i j
  unfold FDun
  rw [if_neg (by omega), if_neg (by omega), if_neg (by omega), if_neg (by omega), if_neg (by omega), if_neg (by omega), if_neg (by omega)]
theorem FDun_11 {s : sS} : FDun s 11 0 0 = s 11 0 0 + 1 := by unfold FDun; rw [if_pos ⟨rfl, rfl, rfl⟩]
theorem FDun_o {s : sS} {d : Int} (hd : d < s 11 0 0) : FDun s 12 d 0 = s 12 d 0 ∧ FDun s 13 d = s 13 d := by
  constructor
  · unfold FDun
    rw [if_neg (by omega), if_neg (by omega), if_neg (by omega), if_neg (by omega), if_neg (by omega), if_neg (by omega), if_neg (by omega)]
  · funext j
    unfold FDun
    rw [if_neg (by omega), if_neg (by omega), if_neg (by omega), if_neg (by omega), if_neg (by omega), if_neg (by omega), if_neg (by omega)]
theorem FDun_fo {s : sS} {q : Int} (hd : q < 3 * s 11 0 0) : FDun s 14 q = s 14 q ∧ FDun s 15 q = s 15 q ∧ FDun s 16 q 0 = s 16 q 0 ∧ FDun s 17 q 0 = s 17 q 0 := by
  refine ⟨?_, ?_, ?_, ?_⟩
  · funext j; unfold FDun
    rw [if_neg (by omega), if_neg (by omega), if_neg (by omega), if_neg (by omega), if_neg (by omega), if_neg (by omega), if_neg (by omega)]
  · funext j; unfold FDun
    rw [if_neg (by omega), if_neg (by omega), if_neg (by omega), if_neg (by omega), if_neg (by omega), if_neg (by omega), if_neg (by omega)]
  · unfold FDun
    rw [if_neg (by omega), if_neg (by omega), if_neg (by omega), if_neg (by omega), if_neg (by omega), if_neg (by omega), if_neg (by omega)]
  · unfold FDun
    rw [if_neg (by omega), if_neg (by omega), if_neg (by omega), if_neg (by omega), if_neg (by omega), if_neg (by omega), if_neg (by omega)]
theorem FDun_n {s : sS} : FDun s 12 (s 11 0 0) 0 = s 7 0 0 ∧ FDun s 13 (s 11 0 0) = tdR s := by
  constructor
  · unfold FDun
    rw [if_neg (by omega), if_pos ⟨rfl, rfl, rfl⟩]
  · funext j; unfold FDun
    rw [if_neg (by omega), if_neg (by omega), if_pos ⟨rfl, rfl⟩]
theorem FDun_fn {s : sS} {f : Nat} (hf : f < 3) : FDun s 14 (3 * s 11 0 0 + f) = fD (gxe (s 7 0 0) (tdR s) f).1 (gxe (s 7 0 0) (tdR s) f).2 (tdR s) ∧ FDun s 15 (3 * s 11 0 0 + f) = fM (gxe (s 7 0 0) (tdR s) f).1 (gxe (s 7 0 0) (tdR s) f).2 (tdR s) ∧ FDun s 16 (3 * s 11 0 0 + f) 0 = fT (gxe (s 7 0 0) (tdR s) f).1 (tdR s) ∧ FDun s 17 (3 * s 11 0 0 + f) 0 = (gxe (s 7 0 0) (tdR s) (f + 1)).2 ∧ entS (FDun s) (s 11 0 0) f = (gxe (s 7 0 0) (tdR s) f).2 := by
  have e : (3 * s 11 0 0 + (f : Int) - 3 * s 11 0 0).toNat = f := by omega
  refine ⟨?_, ?_, ?_, ?_, ?_⟩
  · funext j; unfold FDun
    rw [if_neg (by omega), if_neg (by omega), if_neg (by omega), if_pos (by omega), e]
  · funext j; unfold FDun
    rw [if_neg (by omega), if_neg (by omega), if_neg (by omega), if_neg (by omega), if_pos (by omega), e]
  · unfold FDun
    rw [if_neg (by omega), if_neg (by omega), if_neg (by omega), if_neg (by omega), if_neg (by omega), if_pos (by omega), e]
  · unfold FDun
    rw [if_neg (by omega), if_neg (by omega), if_neg (by omega), if_neg (by omega), if_neg (by omega), if_neg (by omega), if_pos (by omega), e]
  · unfold entS
    by_cases q : f = 0
    · subst q; rfl
    · rw [if_neg (by omega)]
      unfold FDun
      rw [if_neg (by omega), if_neg (by omega), if_neg (by omega), if_neg (by omega), if_neg (by omega), if_neg (by omega), if_pos (by omega)]
      rw [show (3 * s 11 0 0 + (f : Int) - 1 - 3 * s 11 0 0).toNat + 1 = f by omega]
theorem ent_o {s : sS} {d f : Int} (hd : d < s 11 0 0) (f1 : f < 3) : entS (FDun s) d f = entS s d f := by
  unfold entS
  split
  · rfl
  · rw [(FDun_fo (q := 3 * d + f - 1) (by omega)).2.2.2]
/-- names for the new dungeon n at D, its rules at Rc, its row of floors at b -/
def adN (ad : sS) (g : ac_H) (n D Rc b : Int) : sS := fun t i j =>
  if i = n ∧ j = 0 ∧ t = 20 then D else if i = n ∧ j = 0 ∧ t = 21 then Rc else if i = n ∧ j = 0 ∧ t = 22 then b
  else if i = n ∧ (0 ≤ j ∧ j < 3) ∧ t = 23 then flr g D j
  else if i = n ∧ (0 ≤ j ∧ j < 3) ∧ t = 24 then g 402 (flr g D j) 0
  else if i = n ∧ (0 ≤ j ∧ j < 3) ∧ t = 25 then g 403 (flr g D j) 0
  else if i = n ∧ (0 ≤ j ∧ j < 3) ∧ t = 26 then g 405 (flr g D j) 0
  else if i = n ∧ (0 ≤ j ∧ j < 3) ∧ t = 27 then g 406 (flr g D j) 0
  else ad t i j
theorem adN_t {ad : sS} {g : ac_H} {n D Rc b : Int} {t : Nat} (h : t < 20 ∨ 27 < t) : adN ad g n D Rc b t = ad t := by
  funext i j; unfold adN
  rw [if_neg (by omega), if_neg (by omega), if_neg (by omega), if_neg (by omega), if_neg (by omega), if_neg (by omega), if_neg (by omega), if_neg (by omega)]
theorem adN_o {ad : sS} {g : ac_H} {n D Rc b : Int} {t : Nat} {i j : Int} (h : i ≠ n) : adN ad g n D Rc b t i j = ad t i j := by
  unfold adN
  rw [if_neg (fun q => h q.1), if_neg (fun q => h q.1), if_neg (fun q => h q.1), if_neg (fun q => h q.1), if_neg (fun q => h q.1), if_neg (fun q => h q.1), if_neg (fun q => h q.1), if_neg (fun q => h q.1)]
theorem adN_n {ad : sS} {g : ac_H} {n D Rc b : Int} : adN ad g n D Rc b 20 n 0 = D ∧ adN ad g n D Rc b 21 n 0 = Rc ∧ adN ad g n D Rc b 22 n 0 = b ∧ ∀ f, 0 ≤ f → f < 3 → adN ad g n D Rc b 23 n f = flr g D f ∧ adN ad g n D Rc b 24 n f = g 402 (flr g D f) 0 ∧ adN ad g n D Rc b 25 n f = g 403 (flr g D f) 0 ∧ adN ad g n D Rc b 26 n f = g 405 (flr g D f) 0 ∧ adN ad g n D Rc b 27 n f = g 406 (flr g D f) 0 := by
  refine ⟨by simp [adN], by simp [adN], by simp [adN], fun f f0 f1 => ⟨?_, ?_, ?_, ?_, ?_⟩⟩
  all_goals simp [adN, f0, f1]
