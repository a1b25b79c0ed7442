/-! ===== the reference: its object, its plans ===== -/
/-- the reference's object: its numbers by the places of their fields -/
def mdO (f : gF) (h : Nat) (Z : Nat → Int) : Prop := f h = .inr (11, [.int (zI (Z 0)), .ref (h + 1), .ref (h + 2), .ref (h + 3), .ref (h + 4), .ref (h + 5), .ref (h + 6), .ref (h + 7), .ref (h + 8), .int (zI (Z 9)), .int (zI (Z 10)), .int (zI (Z 11)), .int (zI (Z 12)), .int (zI (Z 13)), .int (zI (Z 14)), .int (zI (Z 15)), .int (zI (Z 16)), .ref (h + 9), .ref (h + 10), .ref (h + 11), .int (zI (Z 20)), .int (zI (Z 21)), .int (zI (Z 22)), .ref (h + 12)])
theorem mdO.kept {f f1 : gF} {h : Nat} {Z : Nat → Int} (H : mdO f h Z) (e : f1 h = f h) : mdO f1 h Z := e.trans H
/-- 147 numbers P laid at a, the rest as in M -/
def mov (M : Nat → Int) (a : Nat) (P : Nat → Int) : Nat → Int := fun j => if a ≤ j ∧ j < a + 147 then P (j - a) else M j
theorem mov_at {M P : Nat → Int} {a j i : Nat} (h : j = a + i) (hi : i < 147) : mov M a P j = P i := by
  subst h; unfold mov; rw [if_pos ⟨by omega, by omega⟩]; congr 1; omega
theorem mov_n {M P : Nat → Int} {a j : Nat} (h : j < a ∨ a + 147 ≤ j) : mov M a P j = M j := by
  unfold mov; rw [if_neg (by omega)]
theorem mov_pu {M P : Nat → Int} {a j i : Nat} {v : Int} (h : j = a + i) (hi : i < 147) (k : Nat) : pu (mov M a P) j v k = mov M a (pu P i v) k := by
  subst h
  simp only [mov, pu]
  by_cases e : k = a + i
  · subst e; rw [if_pos rfl, if_pos ⟨by omega, by omega⟩, if_pos (by omega)]
  · rw [if_neg e]
    split
    · rw [if_neg (by omega)]
    · rfl
theorem mov_c {M P P' : Nat → Int} {a : Nat} (h : ∀ i, i < 147 → P' i = P i) (k : Nat) : mov M a P k = mov M a P' k := by
  simp only [mov]; split
  · rw [h _ (by omega)]
  · rfl
def mpAt (g : gE) (f : gF) (h : Nat) (M : Nat → Int) (a : Nat) (P : Nat → Int) : Prop := arJ g f (h + 1) 2058 (mov M a P)
theorem mpAt.kept {g : gE} {f f1 : gF} {h a : Nat} {M P : Nat → Int} (H : mpAt g f h M a P) (e : ∀ q, h + 1 ≤ q → q < h + 2 → f1 q = f q) : mpAt g f1 h M a P := arJ.kept H (e _ (by omega) (by omega))
theorem mpAt.cong {g : gE} {f : gF} {h a : Nat} {M P P' : Nat → Int} (H : mpAt g f h M a P) (e : ∀ i, i < 147 → P' i = P i) : mpAt g f h M a P' := arJ.cong H (fun k _ => mov_c e k)
/-- the two rows that sharing and settling write over -/
def scrAt (g : gE) (f : gF) (h : Nat) : Prop := (∃ A, arJ g f (h + 9) 6 A) ∧ ∃ U, arZ g f (h + 10) 6 U
theorem scrAt.kept {g : gE} {f f1 : gF} {h : Nat} (H : scrAt g f h) (e : ∀ q, h + 9 ≤ q → q < h + 11 → f1 q = f q) : scrAt g f1 h := by
  obtain ⟨⟨A, hA⟩, U, hU⟩ := H
  exact ⟨⟨A, hA.kept (e _ (by omega) (by omega))⟩, U, hU.kept (e _ (by omega) (by omega))⟩
/-- what fits into an envelope -/
def rmI (P : Nat → Int) (e : Nat) : Int := if P (12 + 4 * e) < 0 then 9223372036854775807 else max 0 (P (12 + 4 * e) - P (11 + 4 * e))
theorem rmI_is {P : Nat → Int} {e : Nat} {a : Int} (ha : a ≤ 9223372036854775807) : min a (rmI P e) = sIs P e a := by
  unfold rmI sIs; split <;> omega
theorem rL_lt {z : Int} (h : -1000000000000000000 ≤ z) (h2 : z ≤ 1000000000000000000) : rL z := ⟨by omega, by omega⟩
/-- a block copied -/
def cpM (M : Nat → Int) (fr to : Nat) : Nat → Int := mov M to (fun i => M (fr + i))
def cpK (M : Nat → Int) (fr to k : Nat) : Nat → Int := fun j => if to ≤ j ∧ j < to + k then M (fr + (j - to)) else M j
