theorem g_sw (lo hi x : Int) : (x < lo ∨ hi < x) ∨ (lo ≤ x ∧ x ≤ hi) := by omega
theorem bI_fit (c : Prop) [Decidable c] : fits .boolean (.int (bI c)) = true := by unfold bI; split <;> rfl
/-! a plan: 147 numbers P: 0 pool, 1 day, 2 received, 3 spent, 4 missed, 5 passed, 6 released, 7 to 10 the counts of envelopes, rules, links, items; from 11 on the envelopes, four each (balance, cap, rollover, spent); from 51 on the rules, three each; from 69 on the links, five each; from 99 on the items, six each -/
def envAt (g : gE) (f : gF) (h : Nat) (P : Nat → Int) : Prop :=
  f h = .inr (4, [.ref (h + 1), .ref (h + 2), .ref (h + 3), .ref (h + 4), .int (zI (P 7))]) ∧ arJ g f (h + 1) 10 (fun k => P (11 + 4 * k)) ∧ arI g f (h + 2) 10 (fun k => P (12 + 4 * k)) ∧ arI g f (h + 3) 10 (fun k => P (13 + 4 * k)) ∧ arJ g f (h + 4) 10 (fun k => P (14 + 4 * k))
def ruleAt (g : gE) (f : gF) (h : Nat) (P : Nat → Int) : Prop :=
  f h = .inr (9, [.ref (h + 1), .ref (h + 2), .ref (h + 3), .int (zI (P 8))]) ∧ arI g f (h + 1) 6 (fun k => P (51 + 3 * k)) ∧ arI g f (h + 2) 6 (fun k => P (52 + 3 * k)) ∧ arI g f (h + 3) 6 (fun k => P (53 + 3 * k))
def linkAt (g : gE) (f : gF) (h : Nat) (P : Nat → Int) : Prop :=
  f h = .inr (6, [.ref (h + 1), .ref (h + 2), .ref (h + 3), .ref (h + 4), .ref (h + 5), .int (zI (P 9))]) ∧ arI g f (h + 1) 6 (fun k => P (69 + 5 * k)) ∧ arI g f (h + 2) 6 (fun k => P (70 + 5 * k)) ∧ arI g f (h + 3) 6 (fun k => P (71 + 5 * k)) ∧ arI g f (h + 4) 6 (fun k => P (72 + 5 * k)) ∧ arJ g f (h + 5) 6 (fun k => P (73 + 5 * k))
def itemAt (g : gE) (f : gF) (h : Nat) (P : Nat → Int) : Prop :=
  f h = .inr (5, [.ref (h + 1), .ref (h + 2), .ref (h + 3), .ref (h + 4), .ref (h + 5), .ref (h + 6), .int (zI (P 10))]) ∧ arI g f (h + 1) 8 (fun k => P (99 + 6 * k)) ∧ arI g f (h + 2) 8 (fun k => P (100 + 6 * k)) ∧ arI g f (h + 3) 8 (fun k => P (101 + 6 * k)) ∧ arI g f (h + 4) 8 (fun k => P (102 + 6 * k)) ∧ arI g f (h + 5) 8 (fun k => P (103 + 6 * k)) ∧ arI g f (h + 6) 8 (fun k => P (104 + 6 * k))
def planAt (g : gE) (f : gF) (h : Nat) (P : Nat → Int) : Prop :=
  f h = .inr (7, [.ref (h + 1), .ref (h + 6), .ref (h + 10), .ref (h + 16), .long (zL (P 0)), .int (zI (P 1)), .long (zL (P 2)), .long (zL (P 3)), .int (zI (P 4)), .long (zL (P 5)), .long (zL (P 6))]) ∧ envAt g f (h + 1) P ∧ ruleAt g f (h + 6) P ∧ linkAt g f (h + 10) P ∧ itemAt g f (h + 16) P
theorem envAt.kept {g : gE} {f f1 : gF} {h : Nat} {P : Nat → Int} (H : envAt g f h P) (e : ∀ q, h ≤ q → q < h + 5 → f1 q = f q) : envAt g f1 h P := by
  obtain ⟨h0, h1, h2, h3, h4⟩ := H
  exact ⟨(e _ (by omega) (by omega)).trans h0, h1.kept (e _ (by omega) (by omega)), h2.kept (e _ (by omega) (by omega)), h3.kept (e _ (by omega) (by omega)), h4.kept (e _ (by omega) (by omega))⟩
theorem ruleAt.kept {g : gE} {f f1 : gF} {h : Nat} {P : Nat → Int} (H : ruleAt g f h P) (e : ∀ q, h ≤ q → q < h + 4 → f1 q = f q) : ruleAt g f1 h P := by
  obtain ⟨h0, h1, h2, h3⟩ := H
  exact ⟨(e _ (by omega) (by omega)).trans h0, h1.kept (e _ (by omega) (by omega)), h2.kept (e _ (by omega) (by omega)), h3.kept (e _ (by omega) (by omega))⟩
theorem linkAt.kept {g : gE} {f f1 : gF} {h : Nat} {P : Nat → Int} (H : linkAt g f h P) (e : ∀ q, h ≤ q → q < h + 6 → f1 q = f q) : linkAt g f1 h P := by
  obtain ⟨h0, h1, h2, h3, h4, h5⟩ := H
  exact ⟨(e _ (by omega) (by omega)).trans h0, h1.kept (e _ (by omega) (by omega)), h2.kept (e _ (by omega) (by omega)), h3.kept (e _ (by omega) (by omega)), h4.kept (e _ (by omega) (by omega)), h5.kept (e _ (by omega) (by omega))⟩
theorem itemAt.kept {g : gE} {f f1 : gF} {h : Nat} {P : Nat → Int} (H : itemAt g f h P) (e : ∀ q, h ≤ q → q < h + 7 → f1 q = f q) : itemAt g f1 h P := by
  obtain ⟨h0, h1, h2, h3, h4, h5, h6⟩ := H
  exact ⟨(e _ (by omega) (by omega)).trans h0, h1.kept (e _ (by omega) (by omega)), h2.kept (e _ (by omega) (by omega)), h3.kept (e _ (by omega) (by omega)), h4.kept (e _ (by omega) (by omega)), h5.kept (e _ (by omega) (by omega)), h6.kept (e _ (by omega) (by omega))⟩
theorem planAt.kept {g : gE} {f f1 : gF} {h : Nat} {P : Nat → Int} (H : planAt g f h P) (e : ∀ q, h ≤ q → q < h + 23 → f1 q = f q) : planAt g f1 h P := by
  obtain ⟨h0, h1, h2, h3, h4⟩ := H
  exact ⟨(e _ (by omega) (by omega)).trans h0, h1.kept (fun q a b => e q (by omega) (by omega)), h2.kept (fun q a b => e q (by omega) (by omega)), h3.kept (fun q a b => e q (by omega) (by omega)), h4.kept (fun q a b => e q (by omega) (by omega))⟩
/-- what an envelope takes of an amount -/
def sIs (P : Nat → Int) (e : Nat) (a : Int) : Int := if P (12 + 4 * e) < 0 then a else min a (max 0 (P (12 + 4 * e) - P (11 + 4 * e)))
def sPut (P : Nat → Int) (e : Nat) (a : Int) : Nat → Int := pu P (11 + 4 * e) (P (11 + 4 * e) + sIs P e a)
def sDrain (P : Nat → Int) (e : Nat) (a : Int) : Nat → Int := pu (pu P (11 + 4 * e) (P (11 + 4 * e) - min (P (11 + 4 * e)) a)) (14 + 4 * e) (P (14 + 4 * e) + min (P (11 + 4 * e)) a)
/-- what an envelope releases by rolling over -/
def sRel (P : Nat → Int) (e : Nat) : Int := if P (13 + 4 * e) = 1 then P (11 + 4 * e) else if P (13 + 4 * e) = 2 then (P (11 + 4 * e)).tdiv 2 else 0
def sAppE (P : Nat → Int) (c : Nat) (a b : Int) : Nat → Int := pu (pu (pu (pu (pu P (11 + 4 * c) 0) (12 + 4 * c) a) (13 + 4 * c) b) (14 + 4 * c) 0) 7 (c + 1)
