/-! ===== questions ===== -/
def zKeep (Z Z1 : Nat → Int) : Prop := ∀ k, k ≠ 0 → k ≠ 11 → k ≠ 15 → Z1 k = Z k
theorem zKeep.rf {Z : Nat → Int} : zKeep Z Z := fun _ _ _ _ => rfl
theorem zKeep.pu {Z Z1 : Nat → Int} {k : Nat} {v : Int} (H : zKeep Z Z1) (h : k = 0 ∨ k = 11 ∨ k = 15) : zKeep Z (pu Z1 k v) := fun j a b c => by
  rw [pu_n (by omega)]; exact H j a b c
theorem zKeep.tr {Z Z1 Z2 : Nat → Int} (H : zKeep Z Z1) (H2 : zKeep Z1 Z2) : zKeep Z Z2 := fun j a b c => (H2 j a b c).trans (H j a b c)
def cd1 (q : Prop) [Decidable q] : Int := if q then 0 else 1
def cd2 (q r : Prop) [Decidable q] [Decidable r] : Int := if q then (if r then 0 else 2) else 1
theorem cd1_y {q : Prop} [Decidable q] (h : q) : cd1 q = 0 := if_pos h
theorem cd1_n {q : Prop} [Decidable q] (h : ¬ q) : cd1 q = 1 := if_neg h
theorem cd2_y {q r : Prop} [Decidable q] [Decidable r] (h : q) (h2 : r) : cd2 q r = 0 := by unfold cd2; rw [if_pos h, if_pos h2]
theorem cd2_1 {q r : Prop} [Decidable q] [Decidable r] (h : ¬ q) : cd2 q r = 1 := if_neg h
theorem cd2_2 {q r : Prop} [Decidable q] [Decidable r] (h : q) (h2 : ¬ r) : cd2 q r = 2 := by unfold cd2; rw [if_pos h, if_neg h2]
/-- a forecast: the least pool, the first day with a miss, the plan -/
def fcT (k : Nat) (t : Int × Int × (Nat → Int)) : Int × Int × (Nat → Int) := (if k = 0 then sDay t.2.2 0 else min t.1 (sDay t.2.2 0), if t.2.1 = 0 ∧ t.2.2 4 < sDay t.2.2 4 then (k : Int) + 1 else t.2.1, sDay t.2.2)
def fc (P : Nat → Int) (n : Nat) : Int × Int × (Nat → Int) := sIt fcT (0, 0, P) n
theorem fc_succ (P : Nat → Int) (n : Nat) : fc P (n + 1) = fcT n (fc P n) := rfl
theorem fc_P (P : Nat → Int) : ∀ n, (fc P n).2.2 = sDays P n
  | 0 => rfl
  | n + 1 => by
    show sDay (fc P n).2.2 = sDay (sDays P n)
    rw [fc_P P n]
def fcV (P : Nat → Int) (d w : Nat) : Int := if w < 8 then sTt (fc P d).2.2 w else if w = 8 then (fc P d).1 else (fc P d).2.1
theorem pOk_mono {P : Nat → Int} {v w : Int} (H : pOk P v) (h : v ≤ w) : pOk P w := pOkL_mono H h
/-- after how many days the number i is at least x, looked for from day k on -/
def duR (P : Nat → Int) (i : Nat) (x : Int) : Nat → Nat → Nat
  | 0, k => k
  | m + 1, k => if x ≤ sDays P k i then k else duR P i x m (k + 1)
theorem duR_eq {P : Nat → Int} {i : Nat} {x : Int} : ∀ {m k k2 : Nat}, k ≤ k2 → k2 ≤ k + m → (∀ j, k ≤ j → j < k2 → ¬ x ≤ sDays P j i) → (k2 = k + m ∨ x ≤ sDays P k2 i) → duR P i x m k = k2
  | 0, k, k2, h1, h2, _, _ => by show k = k2; omega
  | m + 1, k, k2, h1, h2, h3, h4 => by
    unfold duR
    by_cases e : k2 = k
    · subst e; rw [if_pos (by rcases h4 with h | h; omega; exact h)]
    · rw [if_neg (h3 k (Nat.le_refl k) (by omega))]
      exact duR_eq (by omega) (by omega) (fun j a b => h3 j (by omega) b) (by rcases h4 with h | h; exact Or.inl (by omega); exact Or.inr h)
/-- an amount can be spared -/
def spB (P : Nat → Int) (e : Nat) (x : Int) (d : Nat) : Bool := decide (x ≤ P (11 + 4 * e) + P 0) && decide (sDays (sSet (sPay P e x)) d 4 = P 4)
def spT (P : Nat → Int) (e d : Nat) (_ : Nat) (t : Int × Int) : Int × Int := if t.1 + 1 < t.2 then (if spB P e ((t.1 + t.2).tdiv 2) d = true then ((t.1 + t.2).tdiv 2, t.2) else (t.1, (t.1 + t.2).tdiv 2)) else t
def spV (P : Nat → Int) (e d : Nat) : Int := (sIt (spT P e d) (0, 1000001) 32).1
theorem spT_in {P : Nat → Int} {e d : Nat} : ∀ i, i ≤ 20 → (0 ≤ (sIt (spT P e d) (0, 1000001) i).1 ∧ (sIt (spT P e d) (0, 1000001) i).1 < (sIt (spT P e d) (0, 1000001) i).2 ∧ (sIt (spT P e d) (0, 1000001) i).2 ≤ 1000001) ∧ (sIt (spT P e d) (0, 1000001) i).2 - (sIt (spT P e d) (0, 1000001) i).1 ≤ 2 ^ (20 - i)
  | 0, _ => ⟨⟨Int.le_refl 0, (by decide : (0 : Int) < 1000001), Int.le_refl _⟩, (by decide : (1000001 : Int) - 0 ≤ 2 ^ 20)⟩
  | i + 1, hi => by
    obtain ⟨h1, h2⟩ := spT_in (P := P) (e := e) (d := d) i (by omega)
    rw [sIt_succ]
    generalize sIt (spT P e d) (0, 1000001) i = t at h1 h2 ⊢
    obtain ⟨lo, hi9⟩ := t
    have hp : (2 : Int) ^ (20 - i) = 2 * 2 ^ (20 - (i + 1)) := by rw [show 20 - i = (20 - (i + 1)) + 1 by omega, Int.pow_succ]; omega
    have h0 : (1 : Int) ≤ 2 ^ (20 - (i + 1)) := Int.pow_pos (by omega)
    simp only [] at h1 h2
    have ht : Int.tdiv (lo + hi9) 2 = (lo + hi9) / 2 := Int.tdiv_eq_ediv_of_nonneg (by omega)
    unfold spT
    simp only []
    split
    · split <;> simp only [] <;> rw [ht] <;> (refine ⟨⟨?_, ?_, ?_⟩, ?_⟩ <;> omega)
    · simp only []
      refine ⟨h1, ?_⟩; omega
theorem spT_stop {P : Nat → Int} {e d i : Nat} (h : ¬ (sIt (spT P e d) (0, 1000001) i).1 + 1 < (sIt (spT P e d) (0, 1000001) i).2) : ∀ k, sIt (spT P e d) (0, 1000001) (i + k) = sIt (spT P e d) (0, 1000001) i
  | 0 => rfl
  | k + 1 => by
    have := spT_stop h k
    show spT P e d (i + k) (sIt (spT P e d) (0, 1000001) (i + k)) = _
    rw [this]
    exact if_neg h
theorem spV_eq {P : Nat → Int} {e d i : Nat} (hi : i ≤ 32) (h : ¬ (sIt (spT P e d) (0, 1000001) i).1 + 1 < (sIt (spT P e d) (0, 1000001) i).2) : spV P e d = (sIt (spT P e d) (0, 1000001) i).1 := by
  unfold spV
  have := spT_stop h (32 - i)
  rw [show i + (32 - i) = 32 by omega] at this
  rw [this]
