theorem bI_iff {p q : Prop} [Decidable p] [Decidable q] (h : p ↔ q) : bI p = bI q := by
  unfold bI
  by_cases hp : p
  · rw [if_pos hp, if_pos (h.mp hp)]
  · rw [if_neg hp, if_neg (fun x => hp (h.mpr x))]
/-! when a step is refused -/
abbrev nmP (P : Nat → Int) (kd a b : Int) : Prop := (kd = 1 ∨ kd = 2 ∨ kd = 10 → 0 ≤ a ∧ a < P 7) ∧ (kd = 3 → 0 ≤ b ∧ b < P 7) ∧ (kd = 4 → 0 ≤ a ∧ a < P 8) ∧ (kd = 5 → (0 ≤ a ∧ a < P 7) ∧ 0 ≤ b ∧ b < P 7) ∧ (kd = 6 → 0 ≤ a ∧ a < P 9) ∧ (kd = 7 → a = 1 → 0 ≤ b ∧ b < P 7) ∧ (kd = 8 → 0 ≤ a ∧ a < P 10) ∧ (kd = 11 → (a = -1 ∨ 0 ≤ a ∧ a < P 7) ∧ (b = -1 ∨ 0 ≤ b ∧ b < P 7))
abbrev rnP (k n : Int) : Prop := (k = 0 ∧ 1 ≤ n ∧ n ≤ 1000000) ∨ ((k = 1 ∨ k = 2) ∧ 1 ≤ n ∧ n ≤ 100) ∨ (k = 3 ∧ n = 0) ∨ (k = 4 ∧ 1 ≤ n ∧ n ≤ 99)
def rgB (kd a b x y : Int) : Bool := decide (kd = 0 → (-1 ≤ a ∧ a ≤ 9000000) ∧ 0 ≤ b ∧ b ≤ 2) && decide (kd = 1 → -1 ≤ b ∧ b ≤ 9000000) && decide (kd = 2 → 0 ≤ b ∧ b ≤ 2) && decide (kd = 3 → rnP a x) && decide (kd = 5 → a ≠ b ∧ (0 ≤ x ∧ x ≤ 9000000) ∧ 1 ≤ y ∧ y ≤ 100) && decide (kd = 7 → (a = 1 ∨ a = 0 ∧ b = 0) ∧ (1 ≤ x ∧ x ≤ 1000000) ∧ 1 ≤ y ∧ y ≤ 60) && decide (kd = 9 → 1 ≤ a ∧ a ≤ 1000000) && decide (kd = 10 → 1 ≤ b ∧ b ≤ 1000000) && decide (kd = 11 → a ≠ b ∧ 1 ≤ x ∧ x ≤ 1000000) && decide (kd = 12 → 1 ≤ a ∧ a ≤ 60)
abbrev rgP (kd a b x y : Int) : Prop := rgB kd a b x y = true
theorem rgP_iff {kd a b x y : Int} : rgP kd a b x y ↔ (kd = 0 → (-1 ≤ a ∧ a ≤ 9000000) ∧ 0 ≤ b ∧ b ≤ 2) ∧ (kd = 1 → -1 ≤ b ∧ b ≤ 9000000) ∧ (kd = 2 → 0 ≤ b ∧ b ≤ 2) ∧ (kd = 3 → rnP a x) ∧ (kd = 5 → a ≠ b ∧ (0 ≤ x ∧ x ≤ 9000000) ∧ 1 ≤ y ∧ y ≤ 100) ∧ (kd = 7 → (a = 1 ∨ a = 0 ∧ b = 0) ∧ (1 ≤ x ∧ x ≤ 1000000) ∧ 1 ≤ y ∧ y ≤ 60) ∧ (kd = 9 → 1 ≤ a ∧ a ≤ 1000000) ∧ (kd = 10 → 1 ≤ b ∧ b ≤ 1000000) ∧ (kd = 11 → a ≠ b ∧ 1 ≤ x ∧ x ≤ 1000000) ∧ (kd = 12 → 1 ≤ a ∧ a ≤ 60) := by
  simp only [rgP, rgB, Bool.and_eq_true, decide_eq_true_eq, and_assoc]
abbrev rmP (P : Nat → Int) (kd : Int) : Prop := (kd = 0 → P 7 < 10) ∧ (kd = 3 → P 8 < 6) ∧ (kd = 5 → P 9 < 6) ∧ (kd = 7 → P 10 < 8)
abbrev mnP (P : Nat → Int) (kd a b x : Int) : Prop := (kd = 10 → b ≤ P (11 + 4 * a.toNat) + P 0) ∧ (kd = 11 → x ≤ sMon P a)
def sRef (P : Nat → Int) (kd a b x y : Int) (full : Prop) [Decidable full] : Int := if nmP P kd a b then (if rgP kd a b x y then (if ¬ full ∧ rmP P kd then (if mnP P kd a b x then 0 else 4) else 3) else 2) else 1
/-- all balances at P 0's side: none is above u -/
theorem pOk_pool {P : Nat → Int} {v : Int} {lo : Nat} (H : pOkL P v lo) (hv : v ≤ 800000000) : 0 ≤ P 0 ∧ P 0 ≤ 800000000000000 := by
  have hmn := H.2.2.2.1
  have h3 := hmn.2.1
  have h4 := hmn.2.2.2
  have h5 := H.2.2.2.2.1
  have h6 := (sSum_ge (A := fun e => P (11 + 4 * e)) (n := 10) (fun k9 hk9 => hmn.2.2.1 k9 hk9)).1
  have h7 : bS P = sSum (fun e => P (11 + 4 * e)) 10 := rfl
  have h0 := hmn.1
  exact ⟨h0, by omega⟩
theorem rg_0 {a b x y : Int} : rgP 0 a b x y ↔ (-1 ≤ a ∧ a ≤ 9000000) ∧ 0 ≤ b ∧ b ≤ 2 := by rw [rgP_iff]; simp
theorem rg_1 {a b x y : Int} : rgP 1 a b x y ↔ -1 ≤ b ∧ b ≤ 9000000 := by rw [rgP_iff]; simp
theorem rg_2 {a b x y : Int} : rgP 2 a b x y ↔ 0 ≤ b ∧ b ≤ 2 := by rw [rgP_iff]; simp
theorem rg_3 {a b x y : Int} : rgP 3 a b x y ↔ rnP a x := by rw [rgP_iff]; simp
theorem rg_4 {a b x y : Int} : rgP 4 a b x y ↔ True := by rw [rgP_iff]; simp
theorem rg_5 {a b x y : Int} : rgP 5 a b x y ↔ a ≠ b ∧ (0 ≤ x ∧ x ≤ 9000000) ∧ 1 ≤ y ∧ y ≤ 100 := by rw [rgP_iff]; simp
theorem rg_6 {a b x y : Int} : rgP 6 a b x y ↔ True := by rw [rgP_iff]; simp
theorem rg_7 {a b x y : Int} : rgP 7 a b x y ↔ (a = 1 ∨ a = 0 ∧ b = 0) ∧ (1 ≤ x ∧ x ≤ 1000000) ∧ 1 ≤ y ∧ y ≤ 60 := by rw [rgP_iff]; simp
theorem rg_8 {a b x y : Int} : rgP 8 a b x y ↔ True := by rw [rgP_iff]; simp
theorem rg_9 {a b x y : Int} : rgP 9 a b x y ↔ 1 ≤ a ∧ a ≤ 1000000 := by rw [rgP_iff]; simp
theorem rg_10 {a b x y : Int} : rgP 10 a b x y ↔ 1 ≤ b ∧ b ≤ 1000000 := by rw [rgP_iff]; simp
theorem rg_11 {a b x y : Int} : rgP 11 a b x y ↔ a ≠ b ∧ 1 ≤ x ∧ x ≤ 1000000 := by rw [rgP_iff]; simp
theorem rg_12 {a b x y : Int} : rgP 12 a b x y ↔ 1 ≤ a ∧ a ≤ 60 := by rw [rgP_iff]; simp
