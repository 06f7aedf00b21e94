/-! ===== shapes of argument lists; the leaves' contracts ===== -/
def sh_E (f : Prop) (As : List ac_V) : Prop := match As with
  | [] => f
  | _ => False
theorem sh_E_inv {f : Prop} {As : List ac_V} (h : sh_E f As) : As = [] ∧ f := by
  unfold sh_E at h
  split at h
  · exact ⟨rfl, h⟩
  · exact h.elim
def sc_E (pre : ac_H → Prop) (post : ac_H → Option ac_V → ac_H → Prop) (exc : ac_H → String → ac_H → Prop) : ac_Sp := (fun As h => sh_E (pre h) As, fun As h r h' => sh_E (post h r h') As, fun As h E h' => sh_E (exc h E h') As)
theorem hp_E {nL : Nat} {pre : ac_H → Prop} {post : ac_H → Option ac_V → ac_H → Prop} {exc : ac_H → String → ac_H → Prop} (hn : 0 ≤ nL) : ∀ As h, (sc_E pre post exc).1 As h → As.length ≤ nL ∧ ∀ w ∈ As, ∀ x, w ≠ .inr (.inr x) := by
  intro As h hp
  obtain ⟨rfl, -⟩ := sh_E_inv hp
  refine ⟨hn, fun w hw x e => ?_⟩
  subst e
  simp at hw
def sh_I (f : Int → Prop) (As : List ac_V) : Prop := match As with
  | [.inl x0] => f x0
  | _ => False
theorem sh_I_inv {f : Int → Prop} {As : List ac_V} (h : sh_I f As) : ∃ x0 : Int, As = [.inl x0] ∧ f x0 := by
  unfold sh_I at h
  split at h
  · exact ⟨_, rfl, h⟩
  · exact h.elim
def sc_I (pre : Int → ac_H → Prop) (post : Int → ac_H → Option ac_V → ac_H → Prop) (exc : Int → ac_H → String → ac_H → Prop) : ac_Sp := (fun As h => sh_I (fun x0 => pre x0 h) As, fun As h r h' => sh_I (fun x0 => post x0 h r h') As, fun As h E h' => sh_I (fun x0 => exc x0 h E h') As)
theorem hp_I {nL : Nat} {pre : Int → ac_H → Prop} {post : Int → ac_H → Option ac_V → ac_H → Prop} {exc : Int → ac_H → String → ac_H → Prop} (hn : 1 ≤ nL) : ∀ As h, (sc_I pre post exc).1 As h → As.length ≤ nL ∧ ∀ w ∈ As, ∀ x, w ≠ .inr (.inr x) := by
  intro As h hp
  obtain ⟨x0, rfl, -⟩ := sh_I_inv hp
  refine ⟨hn, fun w hw x e => ?_⟩
  subst e
  simp at hw
def sh_II (f : Int → Int → Prop) (As : List ac_V) : Prop := match As with
  | [.inl x0, .inl x1] => f x0 x1
  | _ => False
theorem sh_II_inv {f : Int → Int → Prop} {As : List ac_V} (h : sh_II f As) : ∃ x0 x1 : Int, As = [.inl x0, .inl x1] ∧ f x0 x1 := by
  unfold sh_II at h
  split at h
  · exact ⟨_, _, rfl, h⟩
  · exact h.elim
def sc_II (pre : Int → Int → ac_H → Prop) (post : Int → Int → ac_H → Option ac_V → ac_H → Prop) (exc : Int → Int → ac_H → String → ac_H → Prop) : ac_Sp := (fun As h => sh_II (fun x0 x1 => pre x0 x1 h) As, fun As h r h' => sh_II (fun x0 x1 => post x0 x1 h r h') As, fun As h E h' => sh_II (fun x0 x1 => exc x0 x1 h E h') As)
theorem hp_II {nL : Nat} {pre : Int → Int → ac_H → Prop} {post : Int → Int → ac_H → Option ac_V → ac_H → Prop} {exc : Int → Int → ac_H → String → ac_H → Prop} (hn : 2 ≤ nL) : ∀ As h, (sc_II pre post exc).1 As h → As.length ≤ nL ∧ ∀ w ∈ As, ∀ x, w ≠ .inr (.inr x) := by
  intro As h hp
  obtain ⟨x0, x1, rfl, -⟩ := sh_II_inv hp
  refine ⟨hn, fun w hw x e => ?_⟩
  subst e
  simp at hw
def sh_III (f : Int → Int → Int → Prop) (As : List ac_V) : Prop := match As with
  | [.inl x0, .inl x1, .inl x2] => f x0 x1 x2
  | _ => False
theorem sh_III_inv {f : Int → Int → Int → Prop} {As : List ac_V} (h : sh_III f As) : ∃ x0 x1 x2 : Int, As = [.inl x0, .inl x1, .inl x2] ∧ f x0 x1 x2 := by
  unfold sh_III at h
  split at h
  · exact ⟨_, _, _, rfl, h⟩
  · exact h.elim
def sc_III (pre : Int → Int → Int → ac_H → Prop) (post : Int → Int → Int → ac_H → Option ac_V → ac_H → Prop) (exc : Int → Int → Int → ac_H → String → ac_H → Prop) : ac_Sp := (fun As h => sh_III (fun x0 x1 x2 => pre x0 x1 x2 h) As, fun As h r h' => sh_III (fun x0 x1 x2 => post x0 x1 x2 h r h') As, fun As h E h' => sh_III (fun x0 x1 x2 => exc x0 x1 x2 h E h') As)
theorem hp_III {nL : Nat} {pre : Int → Int → Int → ac_H → Prop} {post : Int → Int → Int → ac_H → Option ac_V → ac_H → Prop} {exc : Int → Int → Int → ac_H → String → ac_H → Prop} (hn : 3 ≤ nL) : ∀ As h, (sc_III pre post exc).1 As h → As.length ≤ nL ∧ ∀ w ∈ As, ∀ x, w ≠ .inr (.inr x) := by
  intro As h hp
  obtain ⟨x0, x1, x2, rfl, -⟩ := sh_III_inv hp
  refine ⟨hn, fun w hw x e => ?_⟩
  subst e
  simp at hw
def sh_R (f : Int → Prop) (As : List ac_V) : Prop := match As with
  | [.inr (.inl x0)] => f x0
  | _ => False
theorem sh_R_inv {f : Int → Prop} {As : List ac_V} (h : sh_R f As) : ∃ x0 : Int, As = [.inr (.inl x0)] ∧ f x0 := by
  unfold sh_R at h
  split at h
  · exact ⟨_, rfl, h⟩
  · exact h.elim
def sc_R (pre : Int → ac_H → Prop) (post : Int → ac_H → Option ac_V → ac_H → Prop) (exc : Int → ac_H → String → ac_H → Prop) : ac_Sp := (fun As h => sh_R (fun x0 => pre x0 h) As, fun As h r h' => sh_R (fun x0 => post x0 h r h') As, fun As h E h' => sh_R (fun x0 => exc x0 h E h') As)
theorem hp_R {nL : Nat} {pre : Int → ac_H → Prop} {post : Int → ac_H → Option ac_V → ac_H → Prop} {exc : Int → ac_H → String → ac_H → Prop} (hn : 1 ≤ nL) : ∀ As h, (sc_R pre post exc).1 As h → As.length ≤ nL ∧ ∀ w ∈ As, ∀ x, w ≠ .inr (.inr x) := by
  intro As h hp
  obtain ⟨x0, rfl, -⟩ := sh_R_inv hp
  refine ⟨hn, fun w hw x e => ?_⟩
  subst e
  simp at hw
def sh_RI (f : Int → Int → Prop) (As : List ac_V) : Prop := match As with
  | [.inr (.inl x0), .inl x1] => f x0 x1
  | _ => False
theorem sh_RI_inv {f : Int → Int → Prop} {As : List ac_V} (h : sh_RI f As) : ∃ x0 x1 : Int, As = [.inr (.inl x0), .inl x1] ∧ f x0 x1 := by
  unfold sh_RI at h
  split at h
  · exact ⟨_, _, rfl, h⟩
  · exact h.elim
def sc_RI (pre : Int → Int → ac_H → Prop) (post : Int → Int → ac_H → Option ac_V → ac_H → Prop) (exc : Int → Int → ac_H → String → ac_H → Prop) : ac_Sp := (fun As h => sh_RI (fun x0 x1 => pre x0 x1 h) As, fun As h r h' => sh_RI (fun x0 x1 => post x0 x1 h r h') As, fun As h E h' => sh_RI (fun x0 x1 => exc x0 x1 h E h') As)
theorem hp_RI {nL : Nat} {pre : Int → Int → ac_H → Prop} {post : Int → Int → ac_H → Option ac_V → ac_H → Prop} {exc : Int → Int → ac_H → String → ac_H → Prop} (hn : 2 ≤ nL) : ∀ As h, (sc_RI pre post exc).1 As h → As.length ≤ nL ∧ ∀ w ∈ As, ∀ x, w ≠ .inr (.inr x) := by
  intro As h hp
  obtain ⟨x0, x1, rfl, -⟩ := sh_RI_inv hp
  refine ⟨hn, fun w hw x e => ?_⟩
  subst e
  simp at hw
def sh_RII (f : Int → Int → Int → Prop) (As : List ac_V) : Prop := match As with
  | [.inr (.inl x0), .inl x1, .inl x2] => f x0 x1 x2
  | _ => False
theorem sh_RII_inv {f : Int → Int → Int → Prop} {As : List ac_V} (h : sh_RII f As) : ∃ x0 x1 x2 : Int, As = [.inr (.inl x0), .inl x1, .inl x2] ∧ f x0 x1 x2 := by
  unfold sh_RII at h
  split at h
  · exact ⟨_, _, _, rfl, h⟩
  · exact h.elim
def sc_RII (pre : Int → Int → Int → ac_H → Prop) (post : Int → Int → Int → ac_H → Option ac_V → ac_H → Prop) (exc : Int → Int → Int → ac_H → String → ac_H → Prop) : ac_Sp := (fun As h => sh_RII (fun x0 x1 x2 => pre x0 x1 x2 h) As, fun As h r h' => sh_RII (fun x0 x1 x2 => post x0 x1 x2 h r h') As, fun As h E h' => sh_RII (fun x0 x1 x2 => exc x0 x1 x2 h E h') As)
theorem hp_RII {nL : Nat} {pre : Int → Int → Int → ac_H → Prop} {post : Int → Int → Int → ac_H → Option ac_V → ac_H → Prop} {exc : Int → Int → Int → ac_H → String → ac_H → Prop} (hn : 3 ≤ nL) : ∀ As h, (sc_RII pre post exc).1 As h → As.length ≤ nL ∧ ∀ w ∈ As, ∀ x, w ≠ .inr (.inr x) := by
  intro As h hp
  obtain ⟨x0, x1, x2, rfl, -⟩ := sh_RII_inv hp
  refine ⟨hn, fun w hw x e => ?_⟩
  subst e
  simp at hw
def sh_RIII (f : Int → Int → Int → Int → Prop) (As : List ac_V) : Prop := match As with
  | [.inr (.inl x0), .inl x1, .inl x2, .inl x3] => f x0 x1 x2 x3
  | _ => False
theorem sh_RIII_inv {f : Int → Int → Int → Int → Prop} {As : List ac_V} (h : sh_RIII f As) : ∃ x0 x1 x2 x3 : Int, As = [.inr (.inl x0), .inl x1, .inl x2, .inl x3] ∧ f x0 x1 x2 x3 := by
  unfold sh_RIII at h
  split at h
  · exact ⟨_, _, _, _, rfl, h⟩
  · exact h.elim
def sc_RIII (pre : Int → Int → Int → Int → ac_H → Prop) (post : Int → Int → Int → Int → ac_H → Option ac_V → ac_H → Prop) (exc : Int → Int → Int → Int → ac_H → String → ac_H → Prop) : ac_Sp := (fun As h => sh_RIII (fun x0 x1 x2 x3 => pre x0 x1 x2 x3 h) As, fun As h r h' => sh_RIII (fun x0 x1 x2 x3 => post x0 x1 x2 x3 h r h') As, fun As h E h' => sh_RIII (fun x0 x1 x2 x3 => exc x0 x1 x2 x3 h E h') As)
theorem hp_RIII {nL : Nat} {pre : Int → Int → Int → Int → ac_H → Prop} {post : Int → Int → Int → Int → ac_H → Option ac_V → ac_H → Prop} {exc : Int → Int → Int → Int → ac_H → String → ac_H → Prop} (hn : 4 ≤ nL) : ∀ As h, (sc_RIII pre post exc).1 As h → As.length ≤ nL ∧ ∀ w ∈ As, ∀ x, w ≠ .inr (.inr x) := by
  intro As h hp
  obtain ⟨x0, x1, x2, x3, rfl, -⟩ := sh_RIII_inv hp
  refine ⟨hn, fun w hw x e => ?_⟩
  subst e
  simp at hw
def sh_RIIII (f : Int → Int → Int → Int → Int → Prop) (As : List ac_V) : Prop := match As with
  | [.inr (.inl x0), .inl x1, .inl x2, .inl x3, .inl x4] => f x0 x1 x2 x3 x4
  | _ => False
theorem sh_RIIII_inv {f : Int → Int → Int → Int → Int → Prop} {As : List ac_V} (h : sh_RIIII f As) : ∃ x0 x1 x2 x3 x4 : Int, As = [.inr (.inl x0), .inl x1, .inl x2, .inl x3, .inl x4] ∧ f x0 x1 x2 x3 x4 := by
  unfold sh_RIIII at h
  split at h
  · exact ⟨_, _, _, _, _, rfl, h⟩
  · exact h.elim
def sc_RIIII (pre : Int → Int → Int → Int → Int → ac_H → Prop) (post : Int → Int → Int → Int → Int → ac_H → Option ac_V → ac_H → Prop) (exc : Int → Int → Int → Int → Int → ac_H → String → ac_H → Prop) : ac_Sp := (fun As h => sh_RIIII (fun x0 x1 x2 x3 x4 => pre x0 x1 x2 x3 x4 h) As, fun As h r h' => sh_RIIII (fun x0 x1 x2 x3 x4 => post x0 x1 x2 x3 x4 h r h') As, fun As h E h' => sh_RIIII (fun x0 x1 x2 x3 x4 => exc x0 x1 x2 x3 x4 h E h') As)
theorem hp_RIIII {nL : Nat} {pre : Int → Int → Int → Int → Int → ac_H → Prop} {post : Int → Int → Int → Int → Int → ac_H → Option ac_V → ac_H → Prop} {exc : Int → Int → Int → Int → Int → ac_H → String → ac_H → Prop} (hn : 5 ≤ nL) : ∀ As h, (sc_RIIII pre post exc).1 As h → As.length ≤ nL ∧ ∀ w ∈ As, ∀ x, w ≠ .inr (.inr x) := by
  intro As h hp
  obtain ⟨x0, x1, x2, x3, x4, rfl, -⟩ := sh_RIIII_inv hp
  refine ⟨hn, fun w hw x e => ?_⟩
  subst e
  simp at hw
def sh_RR (f : Int → Int → Prop) (As : List ac_V) : Prop := match As with
  | [.inr (.inl x0), .inr (.inl x1)] => f x0 x1
  | _ => False
theorem sh_RR_inv {f : Int → Int → Prop} {As : List ac_V} (h : sh_RR f As) : ∃ x0 x1 : Int, As = [.inr (.inl x0), .inr (.inl x1)] ∧ f x0 x1 := by
  unfold sh_RR at h
  split at h
  · exact ⟨_, _, rfl, h⟩
  · exact h.elim
def sc_RR (pre : Int → Int → ac_H → Prop) (post : Int → Int → ac_H → Option ac_V → ac_H → Prop) (exc : Int → Int → ac_H → String → ac_H → Prop) : ac_Sp := (fun As h => sh_RR (fun x0 x1 => pre x0 x1 h) As, fun As h r h' => sh_RR (fun x0 x1 => post x0 x1 h r h') As, fun As h E h' => sh_RR (fun x0 x1 => exc x0 x1 h E h') As)
theorem hp_RR {nL : Nat} {pre : Int → Int → ac_H → Prop} {post : Int → Int → ac_H → Option ac_V → ac_H → Prop} {exc : Int → Int → ac_H → String → ac_H → Prop} (hn : 2 ≤ nL) : ∀ As h, (sc_RR pre post exc).1 As h → As.length ≤ nL ∧ ∀ w ∈ As, ∀ x, w ≠ .inr (.inr x) := by
  intro As h hp
  obtain ⟨x0, x1, rfl, -⟩ := sh_RR_inv hp
  refine ⟨hn, fun w hw x e => ?_⟩
  subst e
  simp at hw
def sh_RRI (f : Int → Int → Int → Prop) (As : List ac_V) : Prop := match As with
  | [.inr (.inl x0), .inr (.inl x1), .inl x2] => f x0 x1 x2
  | _ => False
theorem sh_RRI_inv {f : Int → Int → Int → Prop} {As : List ac_V} (h : sh_RRI f As) : ∃ x0 x1 x2 : Int, As = [.inr (.inl x0), .inr (.inl x1), .inl x2] ∧ f x0 x1 x2 := by
  unfold sh_RRI at h
  split at h
  · exact ⟨_, _, _, rfl, h⟩
  · exact h.elim
def sc_RRI (pre : Int → Int → Int → ac_H → Prop) (post : Int → Int → Int → ac_H → Option ac_V → ac_H → Prop) (exc : Int → Int → Int → ac_H → String → ac_H → Prop) : ac_Sp := (fun As h => sh_RRI (fun x0 x1 x2 => pre x0 x1 x2 h) As, fun As h r h' => sh_RRI (fun x0 x1 x2 => post x0 x1 x2 h r h') As, fun As h E h' => sh_RRI (fun x0 x1 x2 => exc x0 x1 x2 h E h') As)
theorem hp_RRI {nL : Nat} {pre : Int → Int → Int → ac_H → Prop} {post : Int → Int → Int → ac_H → Option ac_V → ac_H → Prop} {exc : Int → Int → Int → ac_H → String → ac_H → Prop} (hn : 3 ≤ nL) : ∀ As h, (sc_RRI pre post exc).1 As h → As.length ≤ nL ∧ ∀ w ∈ As, ∀ x, w ≠ .inr (.inr x) := by
  intro As h hp
  obtain ⟨x0, x1, x2, rfl, -⟩ := sh_RRI_inv hp
  refine ⟨hn, fun w hw x e => ?_⟩
  subst e
  simp at hw
def sh_RRR (f : Int → Int → Int → Prop) (As : List ac_V) : Prop := match As with
  | [.inr (.inl x0), .inr (.inl x1), .inr (.inl x2)] => f x0 x1 x2
  | _ => False
theorem sh_RRR_inv {f : Int → Int → Int → Prop} {As : List ac_V} (h : sh_RRR f As) : ∃ x0 x1 x2 : Int, As = [.inr (.inl x0), .inr (.inl x1), .inr (.inl x2)] ∧ f x0 x1 x2 := by
  unfold sh_RRR at h
  split at h
  · exact ⟨_, _, _, rfl, h⟩
  · exact h.elim
def sc_RRR (pre : Int → Int → Int → ac_H → Prop) (post : Int → Int → Int → ac_H → Option ac_V → ac_H → Prop) (exc : Int → Int → Int → ac_H → String → ac_H → Prop) : ac_Sp := (fun As h => sh_RRR (fun x0 x1 x2 => pre x0 x1 x2 h) As, fun As h r h' => sh_RRR (fun x0 x1 x2 => post x0 x1 x2 h r h') As, fun As h E h' => sh_RRR (fun x0 x1 x2 => exc x0 x1 x2 h E h') As)
theorem hp_RRR {nL : Nat} {pre : Int → Int → Int → ac_H → Prop} {post : Int → Int → Int → ac_H → Option ac_V → ac_H → Prop} {exc : Int → Int → Int → ac_H → String → ac_H → Prop} (hn : 3 ≤ nL) : ∀ As h, (sc_RRR pre post exc).1 As h → As.length ≤ nL ∧ ∀ w ∈ As, ∀ x, w ≠ .inr (.inr x) := by
  intro As h hp
  obtain ⟨x0, x1, x2, rfl, -⟩ := sh_RRR_inv hp
  refine ⟨hn, fun w hw x e => ?_⟩
  subst e
  simp at hw
def sh_RIR (f : Int → Int → Int → Prop) (As : List ac_V) : Prop := match As with
  | [.inr (.inl x0), .inl x1, .inr (.inl x2)] => f x0 x1 x2
  | _ => False
theorem sh_RIR_inv {f : Int → Int → Int → Prop} {As : List ac_V} (h : sh_RIR f As) : ∃ x0 x1 x2 : Int, As = [.inr (.inl x0), .inl x1, .inr (.inl x2)] ∧ f x0 x1 x2 := by
  unfold sh_RIR at h
  split at h
  · exact ⟨_, _, _, rfl, h⟩
  · exact h.elim
def sc_RIR (pre : Int → Int → Int → ac_H → Prop) (post : Int → Int → Int → ac_H → Option ac_V → ac_H → Prop) (exc : Int → Int → Int → ac_H → String → ac_H → Prop) : ac_Sp := (fun As h => sh_RIR (fun x0 x1 x2 => pre x0 x1 x2 h) As, fun As h r h' => sh_RIR (fun x0 x1 x2 => post x0 x1 x2 h r h') As, fun As h E h' => sh_RIR (fun x0 x1 x2 => exc x0 x1 x2 h E h') As)
theorem hp_RIR {nL : Nat} {pre : Int → Int → Int → ac_H → Prop} {post : Int → Int → Int → ac_H → Option ac_V → ac_H → Prop} {exc : Int → Int → Int → ac_H → String → ac_H → Prop} (hn : 3 ≤ nL) : ∀ As h, (sc_RIR pre post exc).1 As h → As.length ≤ nL ∧ ∀ w ∈ As, ∀ x, w ≠ .inr (.inr x) := by
  intro As h hp
  obtain ⟨x0, x1, x2, rfl, -⟩ := sh_RIR_inv hp
  refine ⟨hn, fun w hw x e => ?_⟩
  subst e
  simp at hw
def sh_RIRI (f : Int → Int → Int → Int → Prop) (As : List ac_V) : Prop := match As with
  | [.inr (.inl x0), .inl x1, .inr (.inl x2), .inl x3] => f x0 x1 x2 x3
  | _ => False
theorem sh_RIRI_inv {f : Int → Int → Int → Int → Prop} {As : List ac_V} (h : sh_RIRI f As) : ∃ x0 x1 x2 x3 : Int, As = [.inr (.inl x0), .inl x1, .inr (.inl x2), .inl x3] ∧ f x0 x1 x2 x3 := by
  unfold sh_RIRI at h
  split at h
  · exact ⟨_, _, _, _, rfl, h⟩
  · exact h.elim
def sc_RIRI (pre : Int → Int → Int → Int → ac_H → Prop) (post : Int → Int → Int → Int → ac_H → Option ac_V → ac_H → Prop) (exc : Int → Int → Int → Int → ac_H → String → ac_H → Prop) : ac_Sp := (fun As h => sh_RIRI (fun x0 x1 x2 x3 => pre x0 x1 x2 x3 h) As, fun As h r h' => sh_RIRI (fun x0 x1 x2 x3 => post x0 x1 x2 x3 h r h') As, fun As h E h' => sh_RIRI (fun x0 x1 x2 x3 => exc x0 x1 x2 x3 h E h') As)
theorem hp_RIRI {nL : Nat} {pre : Int → Int → Int → Int → ac_H → Prop} {post : Int → Int → Int → Int → ac_H → Option ac_V → ac_H → Prop} {exc : Int → Int → Int → Int → ac_H → String → ac_H → Prop} (hn : 4 ≤ nL) : ∀ As h, (sc_RIRI pre post exc).1 As h → As.length ≤ nL ∧ ∀ w ∈ As, ∀ x, w ≠ .inr (.inr x) := by
  intro As h hp
  obtain ⟨x0, x1, x2, x3, rfl, -⟩ := sh_RIRI_inv hp
  refine ⟨hn, fun w hw x e => ?_⟩
  subst e
  simp at hw
def sh_RRII (f : Int → Int → Int → Int → Prop) (As : List ac_V) : Prop := match As with
  | [.inr (.inl x0), .inr (.inl x1), .inl x2, .inl x3] => f x0 x1 x2 x3
  | _ => False
theorem sh_RRII_inv {f : Int → Int → Int → Int → Prop} {As : List ac_V} (h : sh_RRII f As) : ∃ x0 x1 x2 x3 : Int, As = [.inr (.inl x0), .inr (.inl x1), .inl x2, .inl x3] ∧ f x0 x1 x2 x3 := by
  unfold sh_RRII at h
  split at h
  · exact ⟨_, _, _, _, rfl, h⟩
  · exact h.elim
def sc_RRII (pre : Int → Int → Int → Int → ac_H → Prop) (post : Int → Int → Int → Int → ac_H → Option ac_V → ac_H → Prop) (exc : Int → Int → Int → Int → ac_H → String → ac_H → Prop) : ac_Sp := (fun As h => sh_RRII (fun x0 x1 x2 x3 => pre x0 x1 x2 x3 h) As, fun As h r h' => sh_RRII (fun x0 x1 x2 x3 => post x0 x1 x2 x3 h r h') As, fun As h E h' => sh_RRII (fun x0 x1 x2 x3 => exc x0 x1 x2 x3 h E h') As)
theorem hp_RRII {nL : Nat} {pre : Int → Int → Int → Int → ac_H → Prop} {post : Int → Int → Int → Int → ac_H → Option ac_V → ac_H → Prop} {exc : Int → Int → Int → Int → ac_H → String → ac_H → Prop} (hn : 4 ≤ nL) : ∀ As h, (sc_RRII pre post exc).1 As h → As.length ≤ nL ∧ ∀ w ∈ As, ∀ x, w ≠ .inr (.inr x) := by
  intro As h hp
  obtain ⟨x0, x1, x2, x3, rfl, -⟩ := sh_RRII_inv hp
  refine ⟨hn, fun w hw x e => ?_⟩
  subst e
  simp at hw
def sh_RRIII (f : Int → Int → Int → Int → Int → Prop) (As : List ac_V) : Prop := match As with
  | [.inr (.inl x0), .inr (.inl x1), .inl x2, .inl x3, .inl x4] => f x0 x1 x2 x3 x4
  | _ => False
theorem sh_RRIII_inv {f : Int → Int → Int → Int → Int → Prop} {As : List ac_V} (h : sh_RRIII f As) : ∃ x0 x1 x2 x3 x4 : Int, As = [.inr (.inl x0), .inr (.inl x1), .inl x2, .inl x3, .inl x4] ∧ f x0 x1 x2 x3 x4 := by
  unfold sh_RRIII at h
  split at h
  · exact ⟨_, _, _, _, _, rfl, h⟩
  · exact h.elim
def sc_RRIII (pre : Int → Int → Int → Int → Int → ac_H → Prop) (post : Int → Int → Int → Int → Int → ac_H → Option ac_V → ac_H → Prop) (exc : Int → Int → Int → Int → Int → ac_H → String → ac_H → Prop) : ac_Sp := (fun As h => sh_RRIII (fun x0 x1 x2 x3 x4 => pre x0 x1 x2 x3 x4 h) As, fun As h r h' => sh_RRIII (fun x0 x1 x2 x3 x4 => post x0 x1 x2 x3 x4 h r h') As, fun As h E h' => sh_RRIII (fun x0 x1 x2 x3 x4 => exc x0 x1 x2 x3 x4 h E h') As)
theorem hp_RRIII {nL : Nat} {pre : Int → Int → Int → Int → Int → ac_H → Prop} {post : Int → Int → Int → Int → Int → ac_H → Option ac_V → ac_H → Prop} {exc : Int → Int → Int → Int → Int → ac_H → String → ac_H → Prop} (hn : 5 ≤ nL) : ∀ As h, (sc_RRIII pre post exc).1 As h → As.length ≤ nL ∧ ∀ w ∈ As, ∀ x, w ≠ .inr (.inr x) := by
  intro As h hp
  obtain ⟨x0, x1, x2, x3, x4, rfl, -⟩ := sh_RRIII_inv hp
  refine ⟨hn, fun w hw x e => ?_⟩
  subst e
  simp at hw
def sh_RIIRR (f : Int → Int → Int → Int → Int → Prop) (As : List ac_V) : Prop := match As with
  | [.inr (.inl x0), .inl x1, .inl x2, .inr (.inl x3), .inr (.inl x4)] => f x0 x1 x2 x3 x4
  | _ => False
theorem sh_RIIRR_inv {f : Int → Int → Int → Int → Int → Prop} {As : List ac_V} (h : sh_RIIRR f As) : ∃ x0 x1 x2 x3 x4 : Int, As = [.inr (.inl x0), .inl x1, .inl x2, .inr (.inl x3), .inr (.inl x4)] ∧ f x0 x1 x2 x3 x4 := by
  unfold sh_RIIRR at h
  split at h
  · exact ⟨_, _, _, _, _, rfl, h⟩
  · exact h.elim
def sc_RIIRR (pre : Int → Int → Int → Int → Int → ac_H → Prop) (post : Int → Int → Int → Int → Int → ac_H → Option ac_V → ac_H → Prop) (exc : Int → Int → Int → Int → Int → ac_H → String → ac_H → Prop) : ac_Sp := (fun As h => sh_RIIRR (fun x0 x1 x2 x3 x4 => pre x0 x1 x2 x3 x4 h) As, fun As h r h' => sh_RIIRR (fun x0 x1 x2 x3 x4 => post x0 x1 x2 x3 x4 h r h') As, fun As h E h' => sh_RIIRR (fun x0 x1 x2 x3 x4 => exc x0 x1 x2 x3 x4 h E h') As)
theorem hp_RIIRR {nL : Nat} {pre : Int → Int → Int → Int → Int → ac_H → Prop} {post : Int → Int → Int → Int → Int → ac_H → Option ac_V → ac_H → Prop} {exc : Int → Int → Int → Int → Int → ac_H → String → ac_H → Prop} (hn : 5 ≤ nL) : ∀ As h, (sc_RIIRR pre post exc).1 As h → As.length ≤ nL ∧ ∀ w ∈ As, ∀ x, w ≠ .inr (.inr x) := by
  intro As h hp
  obtain ⟨x0, x1, x2, x3, x4, rfl, -⟩ := sh_RIIRR_inv hp
  refine ⟨hn, fun w hw x e => ?_⟩
  subst e
  simp at hw
def sh_RIIIRR (f : Int → Int → Int → Int → Int → Int → Prop) (As : List ac_V) : Prop := match As with
  | [.inr (.inl x0), .inl x1, .inl x2, .inl x3, .inr (.inl x4), .inr (.inl x5)] => f x0 x1 x2 x3 x4 x5
  | _ => False
theorem sh_RIIIRR_inv {f : Int → Int → Int → Int → Int → Int → Prop} {As : List ac_V} (h : sh_RIIIRR f As) : ∃ x0 x1 x2 x3 x4 x5 : Int, As = [.inr (.inl x0), .inl x1, .inl x2, .inl x3, .inr (.inl x4), .inr (.inl x5)] ∧ f x0 x1 x2 x3 x4 x5 := by
  unfold sh_RIIIRR at h
  split at h
  · exact ⟨_, _, _, _, _, _, rfl, h⟩
  · exact h.elim
def sc_RIIIRR (pre : Int → Int → Int → Int → Int → Int → ac_H → Prop) (post : Int → Int → Int → Int → Int → Int → ac_H → Option ac_V → ac_H → Prop) (exc : Int → Int → Int → Int → Int → Int → ac_H → String → ac_H → Prop) : ac_Sp := (fun As h => sh_RIIIRR (fun x0 x1 x2 x3 x4 x5 => pre x0 x1 x2 x3 x4 x5 h) As, fun As h r h' => sh_RIIIRR (fun x0 x1 x2 x3 x4 x5 => post x0 x1 x2 x3 x4 x5 h r h') As, fun As h E h' => sh_RIIIRR (fun x0 x1 x2 x3 x4 x5 => exc x0 x1 x2 x3 x4 x5 h E h') As)
theorem hp_RIIIRR {nL : Nat} {pre : Int → Int → Int → Int → Int → Int → ac_H → Prop} {post : Int → Int → Int → Int → Int → Int → ac_H → Option ac_V → ac_H → Prop} {exc : Int → Int → Int → Int → Int → Int → ac_H → String → ac_H → Prop} (hn : 6 ≤ nL) : ∀ As h, (sc_RIIIRR pre post exc).1 As h → As.length ≤ nL ∧ ∀ w ∈ As, ∀ x, w ≠ .inr (.inr x) := by
  intro As h hp
  obtain ⟨x0, x1, x2, x3, x4, x5, rfl, -⟩ := sh_RIIIRR_inv hp
  refine ⟨hn, fun w hw x e => ?_⟩
  subst e
  simp at hw
def sh_RIIR (f : Int → Int → Int → Int → Prop) (As : List ac_V) : Prop := match As with
  | [.inr (.inl x0), .inl x1, .inl x2, .inr (.inl x3)] => f x0 x1 x2 x3
  | _ => False
theorem sh_RIIR_inv {f : Int → Int → Int → Int → Prop} {As : List ac_V} (h : sh_RIIR f As) : ∃ x0 x1 x2 x3 : Int, As = [.inr (.inl x0), .inl x1, .inl x2, .inr (.inl x3)] ∧ f x0 x1 x2 x3 := by
  unfold sh_RIIR at h
  split at h
  · exact ⟨_, _, _, _, rfl, h⟩
  · exact h.elim
def sc_RIIR (pre : Int → Int → Int → Int → ac_H → Prop) (post : Int → Int → Int → Int → ac_H → Option ac_V → ac_H → Prop) (exc : Int → Int → Int → Int → ac_H → String → ac_H → Prop) : ac_Sp := (fun As h => sh_RIIR (fun x0 x1 x2 x3 => pre x0 x1 x2 x3 h) As, fun As h r h' => sh_RIIR (fun x0 x1 x2 x3 => post x0 x1 x2 x3 h r h') As, fun As h E h' => sh_RIIR (fun x0 x1 x2 x3 => exc x0 x1 x2 x3 h E h') As)
theorem hp_RIIR {nL : Nat} {pre : Int → Int → Int → Int → ac_H → Prop} {post : Int → Int → Int → Int → ac_H → Option ac_V → ac_H → Prop} {exc : Int → Int → Int → Int → ac_H → String → ac_H → Prop} (hn : 4 ≤ nL) : ∀ As h, (sc_RIIR pre post exc).1 As h → As.length ≤ nL ∧ ∀ w ∈ As, ∀ x, w ≠ .inr (.inr x) := by
  intro As h hp
  obtain ⟨x0, x1, x2, x3, rfl, -⟩ := sh_RIIR_inv hp
  refine ⟨hn, fun w hw x e => ?_⟩
  subst e
  simp at hw
def sh_RRIIR (f : Int → Int → Int → Int → Int → Prop) (As : List ac_V) : Prop := match As with
  | [.inr (.inl x0), .inr (.inl x1), .inl x2, .inl x3, .inr (.inl x4)] => f x0 x1 x2 x3 x4
  | _ => False
theorem sh_RRIIR_inv {f : Int → Int → Int → Int → Int → Prop} {As : List ac_V} (h : sh_RRIIR f As) : ∃ x0 x1 x2 x3 x4 : Int, As = [.inr (.inl x0), .inr (.inl x1), .inl x2, .inl x3, .inr (.inl x4)] ∧ f x0 x1 x2 x3 x4 := by
  unfold sh_RRIIR at h
  split at h
  · exact ⟨_, _, _, _, _, rfl, h⟩
  · exact h.elim
def sc_RRIIR (pre : Int → Int → Int → Int → Int → ac_H → Prop) (post : Int → Int → Int → Int → Int → ac_H → Option ac_V → ac_H → Prop) (exc : Int → Int → Int → Int → Int → ac_H → String → ac_H → Prop) : ac_Sp := (fun As h => sh_RRIIR (fun x0 x1 x2 x3 x4 => pre x0 x1 x2 x3 x4 h) As, fun As h r h' => sh_RRIIR (fun x0 x1 x2 x3 x4 => post x0 x1 x2 x3 x4 h r h') As, fun As h E h' => sh_RRIIR (fun x0 x1 x2 x3 x4 => exc x0 x1 x2 x3 x4 h E h') As)
theorem hp_RRIIR {nL : Nat} {pre : Int → Int → Int → Int → Int → ac_H → Prop} {post : Int → Int → Int → Int → Int → ac_H → Option ac_V → ac_H → Prop} {exc : Int → Int → Int → Int → Int → ac_H → String → ac_H → Prop} (hn : 5 ≤ nL) : ∀ As h, (sc_RRIIR pre post exc).1 As h → As.length ≤ nL ∧ ∀ w ∈ As, ∀ x, w ≠ .inr (.inr x) := by
  intro As h hp
  obtain ⟨x0, x1, x2, x3, x4, rfl, -⟩ := sh_RRIIR_inv hp
  refine ⟨hn, fun w hw x e => ?_⟩
  subst e
  simp at hw
def sh_RRIIIR (f : Int → Int → Int → Int → Int → Int → Prop) (As : List ac_V) : Prop := match As with
  | [.inr (.inl x0), .inr (.inl x1), .inl x2, .inl x3, .inl x4, .inr (.inl x5)] => f x0 x1 x2 x3 x4 x5
  | _ => False
theorem sh_RRIIIR_inv {f : Int → Int → Int → Int → Int → Int → Prop} {As : List ac_V} (h : sh_RRIIIR f As) : ∃ x0 x1 x2 x3 x4 x5 : Int, As = [.inr (.inl x0), .inr (.inl x1), .inl x2, .inl x3, .inl x4, .inr (.inl x5)] ∧ f x0 x1 x2 x3 x4 x5 := by
  unfold sh_RRIIIR at h
  split at h
  · exact ⟨_, _, _, _, _, _, rfl, h⟩
  · exact h.elim
def sc_RRIIIR (pre : Int → Int → Int → Int → Int → Int → ac_H → Prop) (post : Int → Int → Int → Int → Int → Int → ac_H → Option ac_V → ac_H → Prop) (exc : Int → Int → Int → Int → Int → Int → ac_H → String → ac_H → Prop) : ac_Sp := (fun As h => sh_RRIIIR (fun x0 x1 x2 x3 x4 x5 => pre x0 x1 x2 x3 x4 x5 h) As, fun As h r h' => sh_RRIIIR (fun x0 x1 x2 x3 x4 x5 => post x0 x1 x2 x3 x4 x5 h r h') As, fun As h E h' => sh_RRIIIR (fun x0 x1 x2 x3 x4 x5 => exc x0 x1 x2 x3 x4 x5 h E h') As)
theorem hp_RRIIIR {nL : Nat} {pre : Int → Int → Int → Int → Int → Int → ac_H → Prop} {post : Int → Int → Int → Int → Int → Int → ac_H → Option ac_V → ac_H → Prop} {exc : Int → Int → Int → Int → Int → Int → ac_H → String → ac_H → Prop} (hn : 6 ≤ nL) : ∀ As h, (sc_RRIIIR pre post exc).1 As h → As.length ≤ nL ∧ ∀ w ∈ As, ∀ x, w ≠ .inr (.inr x) := by
  intro As h hp
  obtain ⟨x0, x1, x2, x3, x4, x5, rfl, -⟩ := sh_RRIIIR_inv hp
  refine ⟨hn, fun w hw x e => ?_⟩
  subst e
  simp at hw
def sh_RRIIIIR (f : Int → Int → Int → Int → Int → Int → Int → Prop) (As : List ac_V) : Prop := match As with
  | [.inr (.inl x0), .inr (.inl x1), .inl x2, .inl x3, .inl x4, .inl x5, .inr (.inl x6)] => f x0 x1 x2 x3 x4 x5 x6
  | _ => False
theorem sh_RRIIIIR_inv {f : Int → Int → Int → Int → Int → Int → Int → Prop} {As : List ac_V} (h : sh_RRIIIIR f As) : ∃ x0 x1 x2 x3 x4 x5 x6 : Int, As = [.inr (.inl x0), .inr (.inl x1), .inl x2, .inl x3, .inl x4, .inl x5, .inr (.inl x6)] ∧ f x0 x1 x2 x3 x4 x5 x6 := by
  unfold sh_RRIIIIR at h
  split at h
  · exact ⟨_, _, _, _, _, _, _, rfl, h⟩
  · exact h.elim
def sc_RRIIIIR (pre : Int → Int → Int → Int → Int → Int → Int → ac_H → Prop) (post : Int → Int → Int → Int → Int → Int → Int → ac_H → Option ac_V → ac_H → Prop) (exc : Int → Int → Int → Int → Int → Int → Int → ac_H → String → ac_H → Prop) : ac_Sp := (fun As h => sh_RRIIIIR (fun x0 x1 x2 x3 x4 x5 x6 => pre x0 x1 x2 x3 x4 x5 x6 h) As, fun As h r h' => sh_RRIIIIR (fun x0 x1 x2 x3 x4 x5 x6 => post x0 x1 x2 x3 x4 x5 x6 h r h') As, fun As h E h' => sh_RRIIIIR (fun x0 x1 x2 x3 x4 x5 x6 => exc x0 x1 x2 x3 x4 x5 x6 h E h') As)
theorem hp_RRIIIIR {nL : Nat} {pre : Int → Int → Int → Int → Int → Int → Int → ac_H → Prop} {post : Int → Int → Int → Int → Int → Int → Int → ac_H → Option ac_V → ac_H → Prop} {exc : Int → Int → Int → Int → Int → Int → Int → ac_H → String → ac_H → Prop} (hn : 7 ≤ nL) : ∀ As h, (sc_RRIIIIR pre post exc).1 As h → As.length ≤ nL ∧ ∀ w ∈ As, ∀ x, w ≠ .inr (.inr x) := by
  intro As h hp
  obtain ⟨x0, x1, x2, x3, x4, x5, x6, rfl, -⟩ := sh_RRIIIIR_inv hp
  refine ⟨hn, fun w hw x e => ?_⟩
  subst e
  simp at hw
def sh_RRIR (f : Int → Int → Int → Int → Prop) (As : List ac_V) : Prop := match As with
  | [.inr (.inl x0), .inr (.inl x1), .inl x2, .inr (.inl x3)] => f x0 x1 x2 x3
  | _ => False
theorem sh_RRIR_inv {f : Int → Int → Int → Int → Prop} {As : List ac_V} (h : sh_RRIR f As) : ∃ x0 x1 x2 x3 : Int, As = [.inr (.inl x0), .inr (.inl x1), .inl x2, .inr (.inl x3)] ∧ f x0 x1 x2 x3 := by
  unfold sh_RRIR at h
  split at h
  · exact ⟨_, _, _, _, rfl, h⟩
  · exact h.elim
def sc_RRIR (pre : Int → Int → Int → Int → ac_H → Prop) (post : Int → Int → Int → Int → ac_H → Option ac_V → ac_H → Prop) (exc : Int → Int → Int → Int → ac_H → String → ac_H → Prop) : ac_Sp := (fun As h => sh_RRIR (fun x0 x1 x2 x3 => pre x0 x1 x2 x3 h) As, fun As h r h' => sh_RRIR (fun x0 x1 x2 x3 => post x0 x1 x2 x3 h r h') As, fun As h E h' => sh_RRIR (fun x0 x1 x2 x3 => exc x0 x1 x2 x3 h E h') As)
theorem hp_RRIR {nL : Nat} {pre : Int → Int → Int → Int → ac_H → Prop} {post : Int → Int → Int → Int → ac_H → Option ac_V → ac_H → Prop} {exc : Int → Int → Int → Int → ac_H → String → ac_H → Prop} (hn : 4 ≤ nL) : ∀ As h, (sc_RRIR pre post exc).1 As h → As.length ≤ nL ∧ ∀ w ∈ As, ∀ x, w ≠ .inr (.inr x) := by
  intro As h hp
  obtain ⟨x0, x1, x2, x3, rfl, -⟩ := sh_RRIR_inv hp
  refine ⟨hn, fun w hw x e => ?_⟩
  subst e
  simp at hw
theorem ac_c10 : ((10 : Nat) : Int) = 10 := rfl
theorem ac_c11 : ((11 : Nat) : Int) = 11 := rfl
theorem ac_c12 : ((12 : Nat) : Int) = 12 := rfl
theorem ac_c13 : ((13 : Nat) : Int) = 13 := rfl
theorem ac_c14 : ((14 : Nat) : Int) = 14 := rfl
theorem ac_c15 : ((15 : Nat) : Int) = 15 := rfl
theorem ac_c16 : ((16 : Nat) : Int) = 16 := rfl
theorem ac_c17 : ((17 : Nat) : Int) = 17 := rfl
theorem wr_of {z : Int} (h1 : -2147483648 ≤ z) (h2 : z < 2147483648) : wr z = z := wr_eq ⟨h1, h2⟩
def nox {α : Sort _} : α → ac_H → String → ac_H → Prop := fun _ _ _ _ => False
/-- a bit of an int, as a number -/
def bt (b i : Int) : Int := iand (ishr b i) 1
/-- what a draw makes of x -/
def drw (x : Int) : Int := (75 * x + 74) % 65537
/-- the room beside, -1 at the edge -/
def nb (r d : Int) : Int := if d = 0 then (if r / 4 ≤ 0 then -1 else r - 4) else if d = 1 then (if r % 4 ≤ 0 then -1 else r - 1) else if d = 2 then (if 3 ≤ r % 4 then -1 else r + 1) else (if 3 ≤ r / 4 then -1 else r + 4)
def spX8_holds : ac_Sp := sc_II (fun _ _ _ => True) (fun b i h r h' => h' = h ∧ r = some (.inl (if bt b i = 0 then 0 else 1))) (fun _ _ _ _ _ => False)
set_option maxRecDepth 100000 in
set_option maxHeartbeats 4000000 in
theorem mtX8_holds {G : ac_G} {l : Launch} : ac_Met G l yX8_holds mX8_holds 0 0 0 0 spX8_holds := by
  refine ac_meth1 (pcs := pcX8_holds) (B := fun P X J j => vcX8_holds P X J j) (by decide) rfl rfl rfl (fun P X J hJ j => sdX8_holds P X J hJ j) (hp_II (by decide)) fun As h hp => ?_
  obtain ⟨b, i, rfl, hp⟩ := sh_II_inv hp
  simp only [spX8_holds, vcX8_holds, mX8_holds, sc_II, sh_II, bt, ac_ent, ldI, ldR, stI, stR, inc, cI, cJ, cN, bop, oAdd, oSub, oMul, oAnd, oOr, oXor, oShl, oShr, oUshr, oRem, oDiv, oMx, oMn, oI2l, oLcmp, oDup, oDup2, oDupX1, oPop, bIc, bI0, bNul, getI, getR, putI, putZ, putR, aLen, aldI, aldZ, aldJ, aldR, astI, astZ, astJ, astR, nwO, nwA, gsT, oObj, oCpy, oCln, oCst, rtI, rtZ, rtR, rtV, thr, call, callH, ac_hsel, ac_as, ac_rs, ac_cs, ac_rcv, List.map_cons, List.map_nil, List.length_cons, List.length_nil, List.replicate, List.append_nil, List.cons_append, List.nil_append, List.getElem?_cons_zero, List.getElem?_cons_succ, List.set, Nat.zero_add, Nat.add_zero, Nat.le_refl, Nat.reduceAdd, Nat.reduceSub, Nat.reduceLeDiff, Int.reduceLT, Int.reduceLE, Int.reduceNeg, Int.reduceEq, true_and, and_true, true_or, or_true, not_true_eq_false, not_false_eq_true, false_implies, true_implies, implies_true, reduceIte, and_self, Int.reduceAdd, Int.reduceMul, Int.reduceSub, eq_self, Int.add_zero, Int.zero_add, String.reduceEq, Nat.zero_le, Option.some.injEq, Sum.inl.injEq, Sum.inr.injEq, reduceCtorEq, Int.reduceToNat, Option.toList_some, Option.toList_none, ac_cs, ac_c10, ac_c11, ac_c12, ac_c13, ac_c14, ac_c15, ac_c16, ac_c17, sc_E, sh_E, sc_I, sh_I, sc_II, sh_II, sc_III, sh_III, sc_R, sh_R, sc_RI, sh_RI, sc_RII, sh_RII, sc_RIII, sh_RIII, sc_RIIII, sh_RIIII, sc_RR, sh_RR, sc_RRI, sh_RRI, sc_RRR, sh_RRR, sc_RIR, sh_RIR, sc_RIRI, sh_RIRI, sc_RRII, sh_RRII, sc_RRIII, sh_RRIII, sc_RIIRR, sh_RIIRR, sc_RIIIRR, sh_RIIIRR, sc_RIIR, sh_RIIR, sc_RRIIR, sh_RRIIR, sc_RRIIIR, sh_RRIIIR, sc_RRIIIIR, sh_RRIIIIR, sc_RRIR, sh_RRIR]
  all_goals (repeat' (first | apply And.intro | intro _))
  all_goals (repeat' split)
  all_goals (first | omega | (simp_all; done) | (simp_all; omega))
def spX8_remainder : ac_Sp := sc_II (fun a b _ => 0 ≤ a ∧ 0 < b) (fun a b h r h' => h' = h ∧ r = some (.inl (a % b))) (fun _ _ _ _ _ => False)
set_option maxRecDepth 100000 in
set_option maxHeartbeats 4000000 in
theorem mtX8_remainder {G : ac_G} {l : Launch} : ac_Met G l yX8_remainder mX8_remainder 0 0 0 0 spX8_remainder := by
  refine ac_meth1 (pcs := pcX8_remainder) (B := fun P X J j => vcX8_remainder P X J j) (by decide) rfl rfl rfl (fun P X J hJ j => sdX8_remainder P X J hJ j) (hp_II (by decide)) fun As h hp => ?_
  obtain ⟨a, b, rfl, hp⟩ := sh_II_inv hp
  simp only [spX8_remainder, vcX8_remainder, mX8_remainder, sc_II, sh_II, ac_ent, ldI, ldR, stI, stR, inc, cI, cJ, cN, bop, oAdd, oSub, oMul, oAnd, oOr, oXor, oShl, oShr, oUshr, oRem, oDiv, oMx, oMn, oI2l, oLcmp, oDup, oDup2, oDupX1, oPop, bIc, bI0, bNul, getI, getR, putI, putZ, putR, aLen, aldI, aldZ, aldJ, aldR, astI, astZ, astJ, astR, nwO, nwA, gsT, oObj, oCpy, oCln, oCst, rtI, rtZ, rtR, rtV, thr, call, callH, ac_hsel, ac_as, ac_rs, ac_cs, ac_rcv, List.map_cons, List.map_nil, List.length_cons, List.length_nil, List.replicate, List.append_nil, List.cons_append, List.nil_append, List.getElem?_cons_zero, List.getElem?_cons_succ, List.set, Nat.zero_add, Nat.add_zero, Nat.le_refl, Nat.reduceAdd, Nat.reduceSub, Nat.reduceLeDiff, Int.reduceLT, Int.reduceLE, Int.reduceNeg, Int.reduceEq, true_and, and_true, true_or, or_true, not_true_eq_false, not_false_eq_true, false_implies, true_implies, implies_true, reduceIte, and_self, Int.reduceAdd, Int.reduceMul, Int.reduceSub, eq_self, Int.add_zero, Int.zero_add, String.reduceEq, Nat.zero_le, Option.some.injEq, Sum.inl.injEq, Sum.inr.injEq, reduceCtorEq, Int.reduceToNat, Option.toList_some, Option.toList_none, ac_cs, ac_c10, ac_c11, ac_c12, ac_c13, ac_c14, ac_c15, ac_c16, ac_c17, sc_E, sh_E, sc_I, sh_I, sc_II, sh_II, sc_III, sh_III, sc_R, sh_R, sc_RI, sh_RI, sc_RII, sh_RII, sc_RIII, sh_RIII, sc_RIIII, sh_RIIII, sc_RR, sh_RR, sc_RRI, sh_RRI, sc_RRR, sh_RRR, sc_RIR, sh_RIR, sc_RIRI, sh_RIRI, sc_RRII, sh_RRII, sc_RRIII, sh_RRIII, sc_RIIRR, sh_RIIRR, sc_RIIIRR, sh_RIIIRR, sc_RIIR, sh_RIIR, sc_RRIIR, sh_RRIIR, sc_RRIIIR, sh_RRIIIR, sc_RRIIIIR, sh_RRIIIIR, sc_RRIR, sh_RRIR]
  obtain ⟨h1, h2⟩ := hp
  refine ⟨fun q => ?_, fun q => ⟨fun q2 => absurd q2 (by omega), fun _ => ⟨h1, h2⟩⟩⟩
  rw [show a = 0 by omega, Int.zero_emod]
/-- there is such a room, as the class says it -/
def rm1 (x : Int) : Int := if 0 ≤ x ∧ x < 16 then 1 else 0
theorem rm_y {x : Int} (h0 : 0 ≤ x) (h1 : x < 16) : rm1 x = 1 := if_pos ⟨h0, h1⟩
theorem rm_n {x : Int} (h : ¬ (0 ≤ x ∧ x < 16)) : rm1 x = 0 := if_neg h
def spX8_isRoom : ac_Sp := sc_I (fun _ _ => True) (fun a h r h' => h' = h ∧ r = some (.inl (rm1 a))) (fun _ _ _ _ => False)
set_option maxRecDepth 100000 in
set_option maxHeartbeats 4000000 in
theorem mtX8_isRoom {G : ac_G} {l : Launch} : ac_Met G l yX8_isRoom mX8_isRoom 0 0 0 0 spX8_isRoom := by
  refine ac_meth1 (pcs := pcX8_isRoom) (B := fun P X J j => vcX8_isRoom P X J j) (by decide) rfl rfl rfl (fun P X J hJ j => sdX8_isRoom P X J hJ j) (hp_I (by decide)) fun As h hp => ?_
  obtain ⟨a, rfl, hp⟩ := sh_I_inv hp
  simp only [spX8_isRoom, vcX8_isRoom, mX8_isRoom, sc_I, sh_I, rm1, ac_ent, ldI, ldR, stI, stR, inc, cI, cJ, cN, bop, oAdd, oSub, oMul, oAnd, oOr, oXor, oShl, oShr, oUshr, oRem, oDiv, oMx, oMn, oI2l, oLcmp, oDup, oDup2, oDupX1, oPop, bIc, bI0, bNul, getI, getR, putI, putZ, putR, aLen, aldI, aldZ, aldJ, aldR, astI, astZ, astJ, astR, nwO, nwA, gsT, oObj, oCpy, oCln, oCst, rtI, rtZ, rtR, rtV, thr, call, callH, ac_hsel, ac_as, ac_rs, ac_cs, ac_rcv, List.map_cons, List.map_nil, List.length_cons, List.length_nil, List.replicate, List.append_nil, List.cons_append, List.nil_append, List.getElem?_cons_zero, List.getElem?_cons_succ, List.set, Nat.zero_add, Nat.add_zero, Nat.le_refl, Nat.reduceAdd, Nat.reduceSub, Nat.reduceLeDiff, Int.reduceLT, Int.reduceLE, Int.reduceNeg, Int.reduceEq, true_and, and_true, true_or, or_true, not_true_eq_false, not_false_eq_true, false_implies, true_implies, implies_true, reduceIte, and_self, Int.reduceAdd, Int.reduceMul, Int.reduceSub, eq_self, Int.add_zero, Int.zero_add, String.reduceEq, Nat.zero_le, Option.some.injEq, Sum.inl.injEq, Sum.inr.injEq, reduceCtorEq, Int.reduceToNat, Option.toList_some, Option.toList_none, ac_cs, ac_c10, ac_c11, ac_c12, ac_c13, ac_c14, ac_c15, ac_c16, ac_c17, sc_E, sh_E, sc_I, sh_I, sc_II, sh_II, sc_III, sh_III, sc_R, sh_R, sc_RI, sh_RI, sc_RII, sh_RII, sc_RIII, sh_RIII, sc_RIIII, sh_RIIII, sc_RR, sh_RR, sc_RRI, sh_RRI, sc_RRR, sh_RRR, sc_RIR, sh_RIR, sc_RIRI, sh_RIRI, sc_RRII, sh_RRII, sc_RRIII, sh_RRIII, sc_RIIRR, sh_RIIRR, sc_RIIIRR, sh_RIIIRR, sc_RIIR, sh_RIIR, sc_RRIIR, sh_RRIIR, sc_RRIIIR, sh_RRIIIR, sc_RRIIIIR, sh_RRIIIIR, sc_RRIR, sh_RRIR]
  all_goals (repeat' (first | apply And.intro | intro _))
  all_goals (repeat' split)
  all_goals (first | omega | (simp_all; done) | (simp_all; omega))
def spX8_opposite : ac_Sp := sc_I (fun a _ => 0 ≤ a ∧ a < 4) (fun a h r h' => h' = h ∧ r = some (.inl (3 - a))) (fun _ _ _ _ => False)
set_option maxRecDepth 100000 in
set_option maxHeartbeats 4000000 in
theorem mtX8_opposite {G : ac_G} {l : Launch} : ac_Met G l yX8_opposite mX8_opposite 0 0 0 0 spX8_opposite := by
  refine ac_meth1 (pcs := pcX8_opposite) (B := fun P X J j => vcX8_opposite P X J j) (by decide) rfl rfl rfl (fun P X J hJ j => sdX8_opposite P X J hJ j) (hp_I (by decide)) fun As h hp => ?_
  obtain ⟨a, rfl, hp⟩ := sh_I_inv hp
  simp only [spX8_opposite, vcX8_opposite, mX8_opposite, sc_I, sh_I, ac_ent, ldI, ldR, stI, stR, inc, cI, cJ, cN, bop, oAdd, oSub, oMul, oAnd, oOr, oXor, oShl, oShr, oUshr, oRem, oDiv, oMx, oMn, oI2l, oLcmp, oDup, oDup2, oDupX1, oPop, bIc, bI0, bNul, getI, getR, putI, putZ, putR, aLen, aldI, aldZ, aldJ, aldR, astI, astZ, astJ, astR, nwO, nwA, gsT, oObj, oCpy, oCln, oCst, rtI, rtZ, rtR, rtV, thr, call, callH, ac_hsel, ac_as, ac_rs, ac_cs, ac_rcv, List.map_cons, List.map_nil, List.length_cons, List.length_nil, List.replicate, List.append_nil, List.cons_append, List.nil_append, List.getElem?_cons_zero, List.getElem?_cons_succ, List.set, Nat.zero_add, Nat.add_zero, Nat.le_refl, Nat.reduceAdd, Nat.reduceSub, Nat.reduceLeDiff, Int.reduceLT, Int.reduceLE, Int.reduceNeg, Int.reduceEq, true_and, and_true, true_or, or_true, not_true_eq_false, not_false_eq_true, false_implies, true_implies, implies_true, reduceIte, and_self, Int.reduceAdd, Int.reduceMul, Int.reduceSub, eq_self, Int.add_zero, Int.zero_add, String.reduceEq, Nat.zero_le, Option.some.injEq, Sum.inl.injEq, Sum.inr.injEq, reduceCtorEq, Int.reduceToNat, Option.toList_some, Option.toList_none, ac_cs, ac_c10, ac_c11, ac_c12, ac_c13, ac_c14, ac_c15, ac_c16, ac_c17, sc_E, sh_E, sc_I, sh_I, sc_II, sh_II, sc_III, sh_III, sc_R, sh_R, sc_RI, sh_RI, sc_RII, sh_RII, sc_RIII, sh_RIII, sc_RIIII, sh_RIIII, sc_RR, sh_RR, sc_RRI, sh_RRI, sc_RRR, sh_RRR, sc_RIR, sh_RIR, sc_RIRI, sh_RIRI, sc_RRII, sh_RRII, sc_RRIII, sh_RRIII, sc_RIIRR, sh_RIIRR, sc_RIIIRR, sh_RIIIRR, sc_RIIR, sh_RIIR, sc_RRIIR, sh_RRIIR, sc_RRIIIR, sh_RRIIIR, sc_RRIIIIR, sh_RRIIIIR, sc_RRIR, sh_RRIR]
  simp (disch := omega) only [wr_of]
def spX8_neighbour : ac_Sp := sc_II (fun a b _ => 0 ≤ a ∧ a < 16) (fun a b h r h' => h' = h ∧ r = some (.inl (nb a b))) (fun _ _ _ _ _ => False)
set_option maxRecDepth 100000 in
set_option maxHeartbeats 4000000 in
theorem mtX8_neighbour {G : ac_G} {l : Launch} : ac_Met G l yX8_neighbour mX8_neighbour 0 0 0 0 spX8_neighbour := by
  refine ac_meth1 (pcs := pcX8_neighbour) (B := fun P X J j => vcX8_neighbour P X J j) (by decide) rfl rfl rfl (fun P X J hJ j => sdX8_neighbour P X J hJ j) (hp_II (by decide)) fun As h hp => ?_
  obtain ⟨a, b, rfl, hp⟩ := sh_II_inv hp
  simp only [spX8_neighbour, vcX8_neighbour, mX8_neighbour, sc_II, sh_II, nb, ac_ent, ldI, ldR, stI, stR, inc, cI, cJ, cN, bop, oAdd, oSub, oMul, oAnd, oOr, oXor, oShl, oShr, oUshr, oRem, oDiv, oMx, oMn, oI2l, oLcmp, oDup, oDup2, oDupX1, oPop, bIc, bI0, bNul, getI, getR, putI, putZ, putR, aLen, aldI, aldZ, aldJ, aldR, astI, astZ, astJ, astR, nwO, nwA, gsT, oObj, oCpy, oCln, oCst, rtI, rtZ, rtR, rtV, thr, call, callH, ac_hsel, ac_as, ac_rs, ac_cs, ac_rcv, List.map_cons, List.map_nil, List.length_cons, List.length_nil, List.replicate, List.append_nil, List.cons_append, List.nil_append, List.getElem?_cons_zero, List.getElem?_cons_succ, List.set, Nat.zero_add, Nat.add_zero, Nat.le_refl, Nat.reduceAdd, Nat.reduceSub, Nat.reduceLeDiff, Int.reduceLT, Int.reduceLE, Int.reduceNeg, Int.reduceEq, true_and, and_true, true_or, or_true, not_true_eq_false, not_false_eq_true, false_implies, true_implies, implies_true, reduceIte, and_self, Int.reduceAdd, Int.reduceMul, Int.reduceSub, eq_self, Int.add_zero, Int.zero_add, String.reduceEq, Nat.zero_le, Option.some.injEq, Sum.inl.injEq, Sum.inr.injEq, reduceCtorEq, Int.reduceToNat, Option.toList_some, Option.toList_none, ac_cs, ac_c10, ac_c11, ac_c12, ac_c13, ac_c14, ac_c15, ac_c16, ac_c17, sc_E, sh_E, sc_I, sh_I, sc_II, sh_II, sc_III, sh_III, sc_R, sh_R, sc_RI, sh_RI, sc_RII, sh_RII, sc_RIII, sh_RIII, sc_RIIII, sh_RIIII, sc_RR, sh_RR, sc_RRI, sh_RRI, sc_RRR, sh_RRR, sc_RIR, sh_RIR, sc_RIRI, sh_RIRI, sc_RRII, sh_RRII, sc_RRIII, sh_RRIII, sc_RIIRR, sh_RIIRR, sc_RIIIRR, sh_RIIIRR, sc_RIIR, sh_RIIR, sc_RRIIR, sh_RRIIR, sc_RRIIIR, sh_RRIIIR, sc_RRIIIIR, sh_RRIIIIR, sc_RRIR, sh_RRIR]
  have h1 : 0 ≤ a := hp.1
  have h2 : a < 16 := hp.2
  simp (disch := omega) only [wr_of]
  all_goals (repeat' (first | apply And.intro | intro _))
  all_goals (repeat' split)
  all_goals (first | omega | (simp_all; done) | (simp_all; omega))
/-! lists of places: first place of a kind, replaced contents -/
def fnd (P : Int → Bool) : Nat → Int
  | 0 => -1
  | n + 1 => if fnd P n ≠ -1 then fnd P n else if P n = true then n else -1
theorem fnd_none {P : Int → Bool} : ∀ {n : Nat}, (∀ j : Int, 0 ≤ j → j < n → P j = false) → fnd P n = -1
  | 0, _ => rfl
  | n + 1, h => by
    have h1 : fnd P n = -1 := fnd_none (fun j a b => h j a (by omega))
    have h2 := h n (by omega) (by omega)
    simp [fnd, h1, h2]
theorem fnd_some {P : Int → Bool} {i : Int} : ∀ {n : Nat}, 0 ≤ i → i < n → P i = true → (∀ j : Int, 0 ≤ j → j < i → P j = false) → fnd P n = i
  | 0, a, b, _, _ => by omega
  | n + 1, a, b, c, d => by
    by_cases e : i < n
    · have h1 : fnd P n = i := fnd_some a e c d
      have : i ≠ -1 := by omega
      simp [fnd, h1, this]
    · have e2 : i = n := by omega
      subst e2
      have h1 : fnd P n = -1 := fnd_none d
      simp [fnd, h1, c]
def fu (f : Int → Int) (i v : Int) : Int → Int := fun j => if j = i then v else f j
/-- an int array's contents, all of them, become f -/
def ast (h : ac_H) (a : Int) (f : Int → Int) : ac_H := fun k a' j => if k = 10 ∧ a' = a then f j else h k a' j
theorem up_ast (h : ac_H) (a : Int) (f : Int → Int) (i v : Int) : up (ast h a f) 10 a i v = ast h a (fu f i v) := by
  funext k a' j
  simp only [up, ast, fu]
  by_cases h1 : k = 10 <;> by_cases h2 : a' = a <;> by_cases h3 : j = i <;> simp [h1, h2, h3]
theorem up10 (h : ac_H) (a i v : Int) : up h 10 a i v = ast h a (fu (h 10 a) i v) := by
  funext k a' j
  simp only [up, ast, fu]
  by_cases h1 : k = 10 <;> by_cases h2 : a' = a <;> by_cases h3 : j = i <;> simp [h1, h2, h3]
theorem ast_10 (h : ac_H) (a : Int) (f : Int → Int) (j : Int) : ast h a f 10 a j = f j := if_pos ⟨rfl, rfl⟩
theorem ast_10' (h : ac_H) (a : Int) (f : Int → Int) : ast h a f 10 a = f := by funext j; exact ast_10 h a f j
theorem ast_a {h : ac_H} {a a' : Int} {f : Int → Int} {k : Nat} {j : Int} (e : a' ≠ a) : ast h a f k a' j = h k a' j := if_neg (fun q => e q.2)
theorem ast_k {h : ac_H} {a a' : Int} {f : Int → Int} {k : Nat} {j : Int} (e : k ≠ 10) : ast h a f k a' j = h k a' j := if_neg (fun q => e q.1)
theorem ast_ast (h : ac_H) (a : Int) (f g : Int → Int) : ast (ast h a f) a g = ast h a g := by
  funext k a' j
  simp only [ast]
  split <;> simp_all
theorem ast_self (h : ac_H) (a : Int) : ast h a (h 10 a) = h := by
  funext k a' j
  simp only [ast]
  split
  · rename_i q; rw [q.1, q.2]
  · rfl
theorem up_kf {h : ac_H} {k k' : Nat} {a a' j v : Int} (e : k' ≠ k) : up h k a j v k' a' = h k' a' := by funext j'; exact up_k e
theorem ast_kf {h : ac_H} {a a' : Int} {f : Int → Int} {k : Nat} (e : k ≠ 10) : ast h a f k a' = h k a' := by funext j'; exact ast_k e
theorem ast_af {h : ac_H} {a a' : Int} {f : Int → Int} {k : Nat} (e : a' ≠ a) : ast h a f k a' = h k a' := by funext j'; exact ast_a e
/-! Draws, Change, Run -/
def hvp (sp : ac_Sp) : Prop := ∀ As h, sp.1 As h → ∃ (a : Int) (As' : List ac_V), As = .inr (.inl a) :: As' ∧ 0 < a
def spX1_init : ac_Sp := sc_RI (fun a x h => 0 < a ∧ h 0 a 0 = 21) (fun a x h r h' => r = none ∧ h' = up h 200 a 0 x) (fun _ _ _ _ _ => False)
theorem hvX1_init : hvp spX1_init := fun As h hp => by obtain ⟨a, x, rfl, hp⟩ := sh_RI_inv hp; exact ⟨_, _, rfl, hp.1⟩
set_option maxRecDepth 100000 in
set_option maxHeartbeats 4000000 in
theorem mtX1_init {G : ac_G} {l : Launch} : ac_Met G l yX1_init mX1_init 1 20 0 0 spX1_init := by
  refine ac_meth1 (pcs := pcX1_init) (B := fun P X J j => vcX1_init P X J j) (by decide) rfl rfl rfl (fun P X J hJ j => sdX1_init P X J hJ j) (hp_RI (by decide)) fun As h hp => ?_
  obtain ⟨a, x, rfl, hp⟩ := sh_RI_inv hp
  simp only [spX1_init, vcX1_init, mX1_init, sc_RI, sh_RI, ac_ent, ldI, ldR, stI, stR, inc, cI, cJ, cN, bop, oAdd, oSub, oMul, oAnd, oOr, oXor, oShl, oShr, oUshr, oRem, oDiv, oMx, oMn, oI2l, oLcmp, oDup, oDup2, oDupX1, oPop, bIc, bI0, bNul, getI, getR, putI, putZ, putR, aLen, aldI, aldZ, aldJ, aldR, astI, astZ, astJ, astR, nwO, nwA, gsT, oObj, oCpy, oCln, oCst, rtI, rtZ, rtR, rtV, thr, call, callH, ac_hsel, ac_as, ac_rs, ac_cs, ac_rcv, List.map_cons, List.map_nil, List.length_cons, List.length_nil, List.replicate, List.append_nil, List.cons_append, List.nil_append, List.getElem?_cons_zero, List.getElem?_cons_succ, List.set, Nat.zero_add, Nat.add_zero, Nat.le_refl, Nat.reduceAdd, Nat.reduceSub, Nat.reduceLeDiff, Int.reduceLT, Int.reduceLE, Int.reduceNeg, Int.reduceEq, true_and, and_true, true_or, or_true, not_true_eq_false, not_false_eq_true, false_implies, true_implies, implies_true, reduceIte, and_self, Int.reduceAdd, Int.reduceMul, Int.reduceSub, eq_self, Int.add_zero, Int.zero_add, String.reduceEq, Nat.zero_le, Option.some.injEq, Sum.inl.injEq, Sum.inr.injEq, reduceCtorEq, Int.reduceToNat, Option.toList_some, Option.toList_none, ac_cs, ac_c10, ac_c11, ac_c12, ac_c13, ac_c14, ac_c15, ac_c16, ac_c17, sc_E, sh_E, sc_I, sh_I, sc_II, sh_II, sc_III, sh_III, sc_R, sh_R, sc_RI, sh_RI, sc_RII, sh_RII, sc_RIII, sh_RIII, sc_RIIII, sh_RIIII, sc_RR, sh_RR, sc_RRI, sh_RRI, sc_RRR, sh_RRR, sc_RIR, sh_RIR, sc_RIRI, sh_RIRI, sc_RRII, sh_RRII, sc_RRIII, sh_RRIII, sc_RIIRR, sh_RIIRR, sc_RIIIRR, sh_RIIIRR, sc_RIIR, sh_RIIR, sc_RRIIR, sh_RRIIR, sc_RRIIIR, sh_RRIIIR, sc_RRIIIIR, sh_RRIIIIR, sc_RRIR, sh_RRIR]
  exact hp
def spX1_next : ac_Sp := sc_R (fun a h => h 0 a 0 = 21 ∧ 0 ≤ h 200 a 0 ∧ h 200 a 0 < 65537) (fun a h r h' => r = some (.inl (drw (h 200 a 0))) ∧ h' = up h 200 a 0 (drw (h 200 a 0))) (fun _ _ _ _ => False)
set_option maxRecDepth 100000 in
set_option maxHeartbeats 4000000 in
theorem mtX1_next {G : ac_G} {l : Launch} : ac_Met G l yX1_next mX1_next 0 0 0 0 spX1_next := by
  refine ac_meth1 (pcs := pcX1_next) (B := fun P X J j => vcX1_next P X J j) (by decide) rfl rfl rfl (fun P X J hJ j => sdX1_next P X J hJ j) (hp_R (by decide)) fun As h hp => ?_
  obtain ⟨a, rfl, hp⟩ := sh_R_inv hp
  simp only [spX1_next, vcX1_next, mX1_next, sc_R, sh_R, drw, up_self, ac_ent, ldI, ldR, stI, stR, inc, cI, cJ, cN, bop, oAdd, oSub, oMul, oAnd, oOr, oXor, oShl, oShr, oUshr, oRem, oDiv, oMx, oMn, oI2l, oLcmp, oDup, oDup2, oDupX1, oPop, bIc, bI0, bNul, getI, getR, putI, putZ, putR, aLen, aldI, aldZ, aldJ, aldR, astI, astZ, astJ, astR, nwO, nwA, gsT, oObj, oCpy, oCln, oCst, rtI, rtZ, rtR, rtV, thr, call, callH, ac_hsel, ac_as, ac_rs, ac_cs, ac_rcv, List.map_cons, List.map_nil, List.length_cons, List.length_nil, List.replicate, List.append_nil, List.cons_append, List.nil_append, List.getElem?_cons_zero, List.getElem?_cons_succ, List.set, Nat.zero_add, Nat.add_zero, Nat.le_refl, Nat.reduceAdd, Nat.reduceSub, Nat.reduceLeDiff, Int.reduceLT, Int.reduceLE, Int.reduceNeg, Int.reduceEq, true_and, and_true, true_or, or_true, not_true_eq_false, not_false_eq_true, false_implies, true_implies, implies_true, reduceIte, and_self, Int.reduceAdd, Int.reduceMul, Int.reduceSub, eq_self, Int.add_zero, Int.zero_add, String.reduceEq, Nat.zero_le, Option.some.injEq, Sum.inl.injEq, Sum.inr.injEq, reduceCtorEq, Int.reduceToNat, Option.toList_some, Option.toList_none, ac_cs, ac_c10, ac_c11, ac_c12, ac_c13, ac_c14, ac_c15, ac_c16, ac_c17, sc_E, sh_E, sc_I, sh_I, sc_II, sh_II, sc_III, sh_III, sc_R, sh_R, sc_RI, sh_RI, sc_RII, sh_RII, sc_RIII, sh_RIII, sc_RIIII, sh_RIIII, sc_RR, sh_RR, sc_RRI, sh_RRI, sc_RRR, sh_RRR, sc_RIR, sh_RIR, sc_RIRI, sh_RIRI, sc_RRII, sh_RRII, sc_RRIII, sh_RRIII, sc_RIIRR, sh_RIIRR, sc_RIIIRR, sh_RIIIRR, sc_RIIR, sh_RIIR, sc_RRIIR, sh_RRIIR, sc_RRIIIR, sh_RRIIIR, sc_RRIIIIR, sh_RRIIIIR, sc_RRIR, sh_RRIR]
  have h1 : h 0 a 0 = 21 := hp.1
  have h2 : 0 ≤ h 200 a 0 := hp.2.1
  have h3 : h 200 a 0 < 65537 := hp.2.2
  simp (disch := omega) only [wr_of]
  refine ⟨h1, by omega, h1, ?_⟩
  simp [up, h1]
def spX0_init : ac_Sp := sc_RIII (fun a r s n h => 0 < a ∧ h 0 a 0 = 20 ∧ (s = 0 ∨ s = 1)) (fun a r s n h v h' => v = none ∧ h' = up (up (up h 100 a 0 r) 101 a 0 s) 102 a 0 n) (fun _ _ _ _ _ _ _ => False)
theorem hvX0_init : hvp spX0_init := fun As h hp => by obtain ⟨a, r, s, n, rfl, hp⟩ := sh_RIII_inv hp; exact ⟨_, _, rfl, hp.1⟩
set_option maxRecDepth 100000 in
set_option maxHeartbeats 4000000 in
theorem mtX0_init {G : ac_G} {l : Launch} : ac_Met G l yX0_init mX0_init 1 20 0 0 spX0_init := by
  refine ac_meth1 (pcs := pcX0_init) (B := fun P X J j => vcX0_init P X J j) (by decide) rfl rfl rfl (fun P X J hJ j => sdX0_init P X J hJ j) (hp_RIII (by decide)) fun As h hp => ?_
  obtain ⟨a, r, s, n, rfl, hp⟩ := sh_RIII_inv hp
  simp only [spX0_init, vcX0_init, mX0_init, sc_RIII, sh_RIII, ac_ent, ldI, ldR, stI, stR, inc, cI, cJ, cN, bop, oAdd, oSub, oMul, oAnd, oOr, oXor, oShl, oShr, oUshr, oRem, oDiv, oMx, oMn, oI2l, oLcmp, oDup, oDup2, oDupX1, oPop, bIc, bI0, bNul, getI, getR, putI, putZ, putR, aLen, aldI, aldZ, aldJ, aldR, astI, astZ, astJ, astR, nwO, nwA, gsT, oObj, oCpy, oCln, oCst, rtI, rtZ, rtR, rtV, thr, call, callH, ac_hsel, ac_as, ac_rs, ac_cs, ac_rcv, List.map_cons, List.map_nil, List.length_cons, List.length_nil, List.replicate, List.append_nil, List.cons_append, List.nil_append, List.getElem?_cons_zero, List.getElem?_cons_succ, List.set, Nat.zero_add, Nat.add_zero, Nat.le_refl, Nat.reduceAdd, Nat.reduceSub, Nat.reduceLeDiff, Int.reduceLT, Int.reduceLE, Int.reduceNeg, Int.reduceEq, true_and, and_true, true_or, or_true, not_true_eq_false, not_false_eq_true, false_implies, true_implies, implies_true, reduceIte, and_self, Int.reduceAdd, Int.reduceMul, Int.reduceSub, eq_self, Int.add_zero, Int.zero_add, String.reduceEq, Nat.zero_le, Option.some.injEq, Sum.inl.injEq, Sum.inr.injEq, reduceCtorEq, Int.reduceToNat, Option.toList_some, Option.toList_none, ac_cs, ac_c10, ac_c11, ac_c12, ac_c13, ac_c14, ac_c15, ac_c16, ac_c17, sc_E, sh_E, sc_I, sh_I, sc_II, sh_II, sc_III, sh_III, sc_R, sh_R, sc_RI, sh_RI, sc_RII, sh_RII, sc_RIII, sh_RIII, sc_RIIII, sh_RIIII, sc_RR, sh_RR, sc_RRI, sh_RRI, sc_RRR, sh_RRR, sc_RIR, sh_RIR, sc_RIRI, sh_RIRI, sc_RRII, sh_RRII, sc_RRIII, sh_RRIII, sc_RIIRR, sh_RIIRR, sc_RIIIRR, sh_RIIIRR, sc_RIIR, sh_RIIR, sc_RRIIR, sh_RRIIR, sc_RRIIIR, sh_RRIIIR, sc_RRIIIIR, sh_RRIIIIR, sc_RRIR, sh_RRIR]
  have h1 : h 0 a 0 = 20 := hp.2.1
  refine ⟨hp.1, h1, ?_⟩
  simp [up, h1, hp.2.2]
