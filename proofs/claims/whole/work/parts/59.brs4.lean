theorem brAt.plan {g : gE} {f f1 : gF} {h : Nat} {B P P' T : Nat → Int} {sc pr ex : Int} (H : brAt g f h B P T sc pr ex) (hN : planAt g f1 (h + 24) P') (o : ∀ q, (q < h + 24 ∨ h + 24 + 23 ≤ q) → f1 q = f q) : brAt g f1 h B P' T sc pr ex := by
  obtain ⟨h0, h1, h2, h3⟩ := H
  exact ⟨(o _ (by omega)).trans h0, h1.kept (fun q a b => o q (by omega)), hN, h3.kept (o _ (by omega))⟩
/-- one branch anew, what else lies in the row unchanged -/
theorem brsAt.oneR {g : gE} {f f1 : gF} {h j : Nat} {B P T B' P' T' : Nat → Nat → Int} {sc pr ex sc' pr' ex' : Nat → Int} {ps : Int} (H : brsAt g f h B P T sc pr ex ps) (hj : j < 6) (hN : brAt g f1 (brB h j) (B' j) (P' j) (T' j) (sc' j) (pr' j) (ex' j)) (o : ∀ q, h ≤ q → q < h + 290 → (q < brB h j ∨ brB h j + 48 ≤ q) → f1 q = f q)
    (e : ∀ k, k < 6 → k ≠ j → B' k = B k ∧ P' k = P k ∧ T' k = T k ∧ sc' k = sc k ∧ pr' k = pr k ∧ ex' k = ex k) : brsAt g f1 h B' P' T' sc' pr' ex' ps := by
  obtain ⟨h0, h1, h2⟩ := H
  have hj2 := brB_in (h := h) hj
  refine ⟨(o _ (by omega) (by omega) (by omega)).trans h0, h1.kept (o _ (by omega) (by omega) (by omega)), fun k hk => ?_⟩
  by_cases hz : k = j
  · subst hz; exact hN
  · obtain ⟨a, b, c, d, e1, e2⟩ := e k hk hz
    rw [a, b, c, d, e1, e2]
    have := brB_dis (h := h) hz
    have := brB_in (h := h) hk
    exact (h2 k hk).kept (fun q a b => o q (by omega) (by omega) (by omega))
/-- the present branch's number alone anew -/
theorem brsAt.pres {g : gE} {f f1 : gF} {h : Nat} {B P T : Nat → Nat → Int} {sc pr ex : Nat → Int} {ps ps' : Int} (H : brsAt g f h B P T sc pr ex ps) (h0 : f1 h = .inr (3, [.ref (h + 1), .ref (h + 49), .int (zI ps')])) (o : ∀ q, q ≠ h → f1 q = f q) : brsAt g f1 h B P T sc pr ex ps' := by
  obtain ⟨_, h1, h2⟩ := H.kept_o o
  exact ⟨h0, h1, h2⟩
