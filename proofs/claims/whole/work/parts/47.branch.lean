/-- a branch: the plan it began with, its plan, the parts of its steps, how many, its parent, whether it exists -/
def brAt (g : gE) (f : gF) (h : Nat) (B P T : Nat → Int) (sc pr ex : Int) : Prop :=
  f h = .inr (2, [.ref (h + 1), .ref (h + 24), .ref (h + 47), .int (zI sc), .int (zI pr), .int (zI ex)]) ∧ planAt g f (h + 1) B ∧ planAt g f (h + 24) P ∧ arI g f (h + 47) 300 T
theorem brAt.kept {g : gE} {f f1 : gF} {h : Nat} {B P T : Nat → Int} {sc pr ex : Int} (H : brAt g f h B P T sc pr ex) (e : ∀ q, h ≤ q → q < h + 48 → f1 q = f q) : brAt g f1 h B P T sc pr ex := by
  obtain ⟨h0, h1, h2, h3⟩ := H
  exact ⟨(e _ (by omega) (by omega)).trans h0, h1.kept (fun q a b => e q (by omega) (by omega)), h2.kept (fun q a b => e q (by omega) (by omega)), h3.kept (e _ (by omega) (by omega))⟩
/-- a step laid behind sc others -/
def rcd (T : Nat → Int) (sc : Nat) (kd a b x y : Int) : Nat → Int := pu (pu (pu (pu (pu T (sc * 5) kd) (sc * 5 + 1) a) (sc * 5 + 2) b) (sc * 5 + 3) x) (sc * 5 + 4) y
/-- i steps of O laid behind sc others -/
def rcAll (T : Nat → Int) (sc : Nat) (O : Nat → Int) (i : Nat) : Nat → Int := sIt (fun k t => rcd t (sc + k) (O (k * 5)) (O (k * 5 + 1)) (O (k * 5 + 2)) (O (k * 5 + 3)) (O (k * 5 + 4))) T i
/-- the parts from a on moved down by one step, up to j -/
def shP (T : Nat → Int) (a j : Nat) : Nat → Int := fun k => if a ≤ k ∧ k < j then T (k + 5) else T k
def sTt (P : Nat → Int) (w : Nat) : Int := if w = 0 then P 0 else if w = 1 then sSum (fun k => P (11 + 4 * k)) (P 7).toNat else if w = 2 then P 2 else if w = 3 then P 3 else if w = 4 then P 4 else if w = 5 then P 1 else P (w - 1)
theorem zb_nar {x : Int} (h : x = 0 ∨ x = 1) : narrow .boolean (.int (zI x)) = .int (zI x) := by rcases h with h | h <;> subst h <;> rfl
theorem zb_fit {x : Int} (h : x = 0 ∨ x = 1) : fits .boolean (.int (zI x)) = true := by rcases h with h | h <;> subst h <;> rfl
