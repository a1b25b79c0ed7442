/-! when a step is refused, kind by kind -/
theorem rf_0 {P : Nat → Int} {a b x y : Int} {F : Prop} [Decidable F] : sRef P 0 a b x y F = if (-1 ≤ a ∧ a ≤ 9000000) ∧ 0 ≤ b ∧ b ≤ 2 then (if ¬ F ∧ P 7 < 10 then 0 else 3) else 2 := by unfold sRef; simp [rg_0, nmP, rmP, mnP]
theorem rf_1 {P : Nat → Int} {a b x y : Int} {F : Prop} [Decidable F] : sRef P 1 a b x y F = if 0 ≤ a ∧ a < P 7 then (if -1 ≤ b ∧ b ≤ 9000000 then (if ¬ F then 0 else 3) else 2) else 1 := by unfold sRef; simp [rg_1, nmP, rmP, mnP]
theorem rf_2 {P : Nat → Int} {a b x y : Int} {F : Prop} [Decidable F] : sRef P 2 a b x y F = if 0 ≤ a ∧ a < P 7 then (if 0 ≤ b ∧ b ≤ 2 then (if ¬ F then 0 else 3) else 2) else 1 := by unfold sRef; simp [rg_2, nmP, rmP, mnP]
theorem rf_3 {P : Nat → Int} {a b x y : Int} {F : Prop} [Decidable F] : sRef P 3 a b x y F = if 0 ≤ b ∧ b < P 7 then (if rnP a x then (if ¬ F ∧ P 8 < 6 then 0 else 3) else 2) else 1 := by unfold sRef; simp [rg_3, nmP, rmP, mnP]
theorem rf_4 {P : Nat → Int} {a b x y : Int} {F : Prop} [Decidable F] : sRef P 4 a b x y F = if 0 ≤ a ∧ a < P 8 then (if ¬ F then 0 else 3) else 1 := by unfold sRef; simp [rg_4, nmP, rmP, mnP]
theorem rf_5 {P : Nat → Int} {a b x y : Int} {F : Prop} [Decidable F] : sRef P 5 a b x y F = if (0 ≤ a ∧ a < P 7) ∧ 0 ≤ b ∧ b < P 7 then (if a ≠ b ∧ (0 ≤ x ∧ x ≤ 9000000) ∧ 1 ≤ y ∧ y ≤ 100 then (if ¬ F ∧ P 9 < 6 then 0 else 3) else 2) else 1 := by unfold sRef; simp [rg_5, nmP, rmP, mnP]
theorem rf_6 {P : Nat → Int} {a b x y : Int} {F : Prop} [Decidable F] : sRef P 6 a b x y F = if 0 ≤ a ∧ a < P 9 then (if ¬ F then 0 else 3) else 1 := by unfold sRef; simp [rg_6, nmP, rmP, mnP]
theorem rf_7 {P : Nat → Int} {a b x y : Int} {F : Prop} [Decidable F] : sRef P 7 a b x y F = if a = 1 → 0 ≤ b ∧ b < P 7 then (if (a = 1 ∨ a = 0 ∧ b = 0) ∧ (1 ≤ x ∧ x ≤ 1000000) ∧ 1 ≤ y ∧ y ≤ 60 then (if ¬ F ∧ P 10 < 8 then 0 else 3) else 2) else 1 := by unfold sRef; simp [rg_7, nmP, rmP, mnP]
theorem rf_8 {P : Nat → Int} {a b x y : Int} {F : Prop} [Decidable F] : sRef P 8 a b x y F = if 0 ≤ a ∧ a < P 10 then (if ¬ F then 0 else 3) else 1 := by unfold sRef; simp [rg_8, nmP, rmP, mnP]
theorem rf_9 {P : Nat → Int} {a b x y : Int} {F : Prop} [Decidable F] : sRef P 9 a b x y F = if 1 ≤ a ∧ a ≤ 1000000 then (if ¬ F then 0 else 3) else 2 := by unfold sRef; simp [rg_9, nmP, rmP, mnP]
theorem rf_10 {P : Nat → Int} {a b x y : Int} {F : Prop} [Decidable F] : sRef P 10 a b x y F = if 0 ≤ a ∧ a < P 7 then (if 1 ≤ b ∧ b ≤ 1000000 then (if ¬ F then (if b ≤ P (11 + 4 * a.toNat) + P 0 then 0 else 4) else 3) else 2) else 1 := by unfold sRef; simp [rg_10, nmP, rmP, mnP]
theorem rf_11 {P : Nat → Int} {a b x y : Int} {F : Prop} [Decidable F] : sRef P 11 a b x y F = if (a = -1 ∨ 0 ≤ a ∧ a < P 7) ∧ (b = -1 ∨ 0 ≤ b ∧ b < P 7) then (if a ≠ b ∧ 1 ≤ x ∧ x ≤ 1000000 then (if ¬ F then (if x ≤ sMon P a then 0 else 4) else 3) else 2) else 1 := by unfold sRef; simp [rg_11, nmP, rmP, mnP]
theorem rf_12 {P : Nat → Int} {a b x y : Int} {F : Prop} [Decidable F] : sRef P 12 a b x y F = if 1 ≤ a ∧ a ≤ 60 then (if ¬ F then 0 else 3) else 2 := by unfold sRef; simp [rg_12, nmP, rmP, mnP]
/-- what a step comes to in the reference: why refused, what is answered, the plan -/
def dRf (P : Nat → Int) (kd a b x y fl : Int) : Int := sRef P kd a b x y (fl = 1)
def dA (P : Nat → Int) (kd a b x y fl : Int) : Int := if dRf P kd a b x y fl = 0 then (sPf P kd a b x y).1 else 0
def dP (P : Nat → Int) (kd a b x y fl : Int) : Nat → Int := if dRf P kd a b x y fl = 0 then (sPf P kd a b x y).2 else P
theorem d_no {P : Nat → Int} {kd a b x y fl v : Int} (h : sRef P kd a b x y (fl = 1) = v) (hv : v ≠ 0) : dRf P kd a b x y fl = v ∧ dA P kd a b x y fl = 0 ∧ dP P kd a b x y fl = P := by
  have e : dRf P kd a b x y fl = v := h
  unfold dA dP
  rw [e, if_neg hv, if_neg hv]
  exact ⟨rfl, rfl, rfl⟩
theorem d_yes {P Q : Nat → Int} {kd a b x y fl r : Int} (h : sRef P kd a b x y (fl = 1) = 0) (hs : sPf P kd a b x y = (r, Q)) : dRf P kd a b x y fl = 0 ∧ dA P kd a b x y fl = r ∧ dP P kd a b x y fl = Q := by
  have e : dRf P kd a b x y fl = 0 := h
  unfold dA dP
  rw [e, if_pos rfl, if_pos rfl, hs]
  exact ⟨rfl, rfl, rfl⟩
theorem rf_alt {g : gE} {f f1 : gF} {h : Nat} {Z : Nat → Int} {iv why : Int} {r : Int32} (hp : po_X9_refuses g f h Z iv why r f1) (hiv : iv = 0 ∨ iv = 1) : (iv = 1 ∧ r = zI 1 ∧ mdO f1 h (pu Z 15 why) ∧ ∀ q, q ≠ h → f1 q = f q) ∨ (iv = 0 ∧ r = zI 0 ∧ mdO f1 h (pu Z 15 0) ∧ ∀ q, q ≠ h → f1 q = f q) := by
  obtain ⟨h1, v, h2, h3, h4, h5⟩ := hp
  rcases hiv with e | e
  · have := h4 e
    subst this; subst e
    exact Or.inr ⟨rfl, h1, h2, h5⟩
  · have := h3 e
    subst this; subst e
    exact Or.inl ⟨rfl, h1, h2, h5⟩
