theorem mul_ok {a b : Int} (a0 : 0 ≤ a) (a1 : a ≤ 1000000) (b0 : 0 ≤ b) (b1 : b ≤ 1000000) : rL (a * b) ∧ 0 ≤ (a * b).tdiv 100 ∧ (a * b).tdiv 100 ≤ 10000000000 := by
  have x : 0 ≤ a * b := Int.mul_nonneg a0 b0
  have y : a * b ≤ a * 1000000 := Int.mul_le_mul_of_nonneg_left b1 a0
  rw [Int.tdiv_eq_ediv_of_nonneg x]
  exact ⟨⟨by omega, by omega⟩, by omega, by omega⟩
/-- the envelopes' part of a plan is in order; u: no balance is greater -/
def wfE (P : Nat → Int) (u : Int) : Prop := (0 ≤ P 7 ∧ P 7 ≤ 10) ∧ ∀ e, e < 10 → (0 ≤ P (11 + 4 * e) ∧ P (11 + 4 * e) ≤ u) ∧ (-1 ≤ P (12 + 4 * e) ∧ P (12 + 4 * e) ≤ 9000000) ∧ (0 ≤ P (13 + 4 * e) ∧ P (13 + 4 * e) ≤ 2)
/-- an envelope rolls over -/
def sRolT (e : Nat) (P : Nat → Int) : Nat → Int :=
  let P1 := pu P (11 + 4 * e) (P (11 + 4 * e) - sRel P e)
  pu (pu P1 0 (P1 0 + sRel P e)) 6 (P1 6 + sRel P e)
def sRoll (P : Nat → Int) : Nat → Int := sIt sRolT P (P 7).toNat
theorem sRel_in {P : Nat → Int} {e : Nat} (h : 0 ≤ P (11 + 4 * e)) : 0 ≤ sRel P e ∧ sRel P e ≤ P (11 + 4 * e) := by
  unfold sRel
  split
  · omega
  · split
    · rw [Int.tdiv_eq_ediv_of_nonneg h]; omega
    · omega
theorem wfE_rolT {P : Nat → Int} {u : Int} {e : Nat} (H : wfE P u) (he : e < 10) : wfE (sRolT e P) u := by
  have hr := sRel_in (H.2 e he).1.1
  refine ⟨?_, fun j hj => ?_⟩
  · simp only [sRolT]; rw [pu_n (by omega), pu_n (by omega), pu_n (by omega)]; exact H.1
  · obtain ⟨⟨h1, h2⟩, h3, h4⟩ := H.2 j hj
    simp only [sRolT]
    refine ⟨?_, ?_, ?_⟩
    · rw [pu_n (by omega), pu_n (by omega)]
      by_cases hz : j = e
      · subst hz; rw [pu_s]; omega
      · rw [pu_n (by omega)]; exact ⟨h1, h2⟩
    · rw [pu_n (by omega), pu_n (by omega), pu_n (by omega)]; exact h3
    · rw [pu_n (by omega), pu_n (by omega), pu_n (by omega)]; exact h4
theorem sRolT_at {P : Nat → Int} {e j : Nat} (h : j ≠ 0 ∧ j ≠ 6 ∧ j ≠ 11 + 4 * e) : sRolT e P j = P j := by
  simp only [sRolT]; rw [pu_n (by omega), pu_n (by omega), pu_n (by omega)]
theorem wfE_roll {P : Nat → Int} {u : Int} (H : wfE P u) : ∀ i, i ≤ 10 → wfE (sIt sRolT P i) u ∧ (sIt sRolT P i) 7 = P 7
  | 0, _ => ⟨H, rfl⟩
  | i + 1, hi => by
    obtain ⟨h1, h2⟩ := wfE_roll H i (by omega)
    rw [sIt_succ]
    exact ⟨wfE_rolT h1 (by omega), (sRolT_at (by omega)).trans h2⟩
