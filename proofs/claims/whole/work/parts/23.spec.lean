theorem envAt.cong {g : gE} {f : gF} {h : Nat} {P P' : Nat → Int} (H : envAt g f h P) (e : ∀ i, (i = 7 ∨ (11 ≤ i ∧ i < 51)) → P' i = P i) : envAt g f h P' := by
  obtain ⟨h0, h1, h2, h3, h4⟩ := H
  refine ⟨by rw [e 7 (by omega)]; exact h0, h1.cong (fun k hk => (e _ (by omega)).symm), h2.cong (fun k hk => (e _ (by omega)).symm), h3.cong (fun k hk => (e _ (by omega)).symm), h4.cong (fun k hk => (e _ (by omega)).symm)⟩

theorem ruleAt.cong {g : gE} {f : gF} {h : Nat} {P P' : Nat → Int} (H : ruleAt g f h P) (e : ∀ i, (i = 8 ∨ (51 ≤ i ∧ i < 69)) → P' i = P i) : ruleAt g f h P' := by
  obtain ⟨h0, h1, h2, h3⟩ := H
  refine ⟨by rw [e 8 (by omega)]; exact h0, h1.cong (fun k hk => (e _ (by omega)).symm), h2.cong (fun k hk => (e _ (by omega)).symm), h3.cong (fun k hk => (e _ (by omega)).symm)⟩

theorem linkAt.cong {g : gE} {f : gF} {h : Nat} {P P' : Nat → Int} (H : linkAt g f h P) (e : ∀ i, (i = 9 ∨ (69 ≤ i ∧ i < 99)) → P' i = P i) : linkAt g f h P' := by
  obtain ⟨h0, h1, h2, h3, h4, h5⟩ := H
  refine ⟨by rw [e 9 (by omega)]; exact h0, h1.cong (fun k hk => (e _ (by omega)).symm), h2.cong (fun k hk => (e _ (by omega)).symm), h3.cong (fun k hk => (e _ (by omega)).symm), h4.cong (fun k hk => (e _ (by omega)).symm), h5.cong (fun k hk => (e _ (by omega)).symm)⟩

theorem itemAt.cong {g : gE} {f : gF} {h : Nat} {P P' : Nat → Int} (H : itemAt g f h P) (e : ∀ i, (i = 10 ∨ (99 ≤ i ∧ i < 147)) → P' i = P i) : itemAt g f h P' := by
  obtain ⟨h0, h1, h2, h3, h4, h5, h6⟩ := H
  refine ⟨by rw [e 10 (by omega)]; exact h0, h1.cong (fun k hk => (e _ (by omega)).symm), h2.cong (fun k hk => (e _ (by omega)).symm), h3.cong (fun k hk => (e _ (by omega)).symm), h4.cong (fun k hk => (e _ (by omega)).symm), h5.cong (fun k hk => (e _ (by omega)).symm), h6.cong (fun k hk => (e _ (by omega)).symm)⟩

theorem planAt.cong {g : gE} {f : gF} {h : Nat} {P P' : Nat → Int} (H : planAt g f h P) (e : ∀ i, i < 147 → P' i = P i) : planAt g f h P' := by
  obtain ⟨h0, h1, h2, h3, h4⟩ := H
  refine ⟨by rw [e 0 (by omega), e 1 (by omega), e 2 (by omega), e 3 (by omega), e 4 (by omega), e 5 (by omega), e 6 (by omega)]; exact h0, h1.cong (fun i hi => e i (by omega)), h2.cong (fun i hi => e i (by omega)), h3.cong (fun i hi => e i (by omega)), h4.cong (fun i hi => e i (by omega))⟩

/-- behind a call that changes a plan's env part alone -/
theorem planAt.env {g : gE} {f f1 : gF} {h : Nat} {P P' : Nat → Int} (H : planAt g f h P) (hN : envAt g f1 (h + 1) P') (o : ∀ q, (q < h + 1 ∨ h + 1 + 5 ≤ q) → f1 q = f q) (e : ∀ i, ¬ (i = 7 ∨ (11 ≤ i ∧ i < 51)) → P' i = P i) : planAt g f1 h P' := by
  obtain ⟨h0, h1, h2, h3, h4⟩ := H
  refine ⟨(o _ (by omega)).trans (by rw [e 0 (by omega), e 1 (by omega), e 2 (by omega), e 3 (by omega), e 4 (by omega), e 5 (by omega), e 6 (by omega)]; exact h0), hN, (h2.kept (fun q a b => o q (by omega))).cong (fun i hi => e i (by omega)), (h3.kept (fun q a b => o q (by omega))).cong (fun i hi => e i (by omega)), (h4.kept (fun q a b => o q (by omega))).cong (fun i hi => e i (by omega))⟩

/-- behind a call that changes a plan's rule part alone -/
theorem planAt.rule {g : gE} {f f1 : gF} {h : Nat} {P P' : Nat → Int} (H : planAt g f h P) (hN : ruleAt g f1 (h + 6) P') (o : ∀ q, (q < h + 6 ∨ h + 6 + 4 ≤ q) → f1 q = f q) (e : ∀ i, ¬ (i = 8 ∨ (51 ≤ i ∧ i < 69)) → P' i = P i) : planAt g f1 h P' := by
  obtain ⟨h0, h1, h2, h3, h4⟩ := H
  refine ⟨(o _ (by omega)).trans (by rw [e 0 (by omega), e 1 (by omega), e 2 (by omega), e 3 (by omega), e 4 (by omega), e 5 (by omega), e 6 (by omega)]; exact h0), (h1.kept (fun q a b => o q (by omega))).cong (fun i hi => e i (by omega)), hN, (h3.kept (fun q a b => o q (by omega))).cong (fun i hi => e i (by omega)), (h4.kept (fun q a b => o q (by omega))).cong (fun i hi => e i (by omega))⟩

/-- behind a call that changes a plan's link part alone -/
theorem planAt.link {g : gE} {f f1 : gF} {h : Nat} {P P' : Nat → Int} (H : planAt g f h P) (hN : linkAt g f1 (h + 10) P') (o : ∀ q, (q < h + 10 ∨ h + 10 + 6 ≤ q) → f1 q = f q) (e : ∀ i, ¬ (i = 9 ∨ (69 ≤ i ∧ i < 99)) → P' i = P i) : planAt g f1 h P' := by
  obtain ⟨h0, h1, h2, h3, h4⟩ := H
  refine ⟨(o _ (by omega)).trans (by rw [e 0 (by omega), e 1 (by omega), e 2 (by omega), e 3 (by omega), e 4 (by omega), e 5 (by omega), e 6 (by omega)]; exact h0), (h1.kept (fun q a b => o q (by omega))).cong (fun i hi => e i (by omega)), (h2.kept (fun q a b => o q (by omega))).cong (fun i hi => e i (by omega)), hN, (h4.kept (fun q a b => o q (by omega))).cong (fun i hi => e i (by omega))⟩

/-- behind a call that changes a plan's item part alone -/
theorem planAt.item {g : gE} {f f1 : gF} {h : Nat} {P P' : Nat → Int} (H : planAt g f h P) (hN : itemAt g f1 (h + 16) P') (o : ∀ q, (q < h + 16 ∨ h + 16 + 7 ≤ q) → f1 q = f q) (e : ∀ i, ¬ (i = 10 ∨ (99 ≤ i ∧ i < 147)) → P' i = P i) : planAt g f1 h P' := by
  obtain ⟨h0, h1, h2, h3, h4⟩ := H
  refine ⟨(o _ (by omega)).trans (by rw [e 0 (by omega), e 1 (by omega), e 2 (by omega), e 3 (by omega), e 4 (by omega), e 5 (by omega), e 6 (by omega)]; exact h0), (h1.kept (fun q a b => o q (by omega))).cong (fun i hi => e i (by omega)), (h2.kept (fun q a b => o q (by omega))).cong (fun i hi => e i (by omega)), (h3.kept (fun q a b => o q (by omega))).cong (fun i hi => e i (by omega)), hN⟩

/-! the specification of a plan's steps, in whole numbers -/
/-- a loop: the state behind k turns -/
def sIt {σ : Type} (step : Nat → σ → σ) (s0 : σ) : Nat → σ
  | 0 => s0
  | k + 1 => step k (sIt step s0 k)
theorem sIt_succ {σ : Type} (step : Nat → σ → σ) (s0 : σ) (k : Nat) : sIt step s0 (k + 1) = step k (sIt step s0 k) := rfl
/-- the numbers' sum of the rules of kind 4 from r on, n of them -/
def sWt (P : Nat → Int) (r n : Nat) : Int := sSum (fun k => P (53 + 3 * (r + k))) n
/-- a rule's part of what is left -/
def sPt (P : Nat → Int) (left w : Int) (r : Nat) : Int := (left * P (53 + 3 * r)).tdiv w
/-- a turn of the sharing: cents left, what was taken, the plan -/
def sShT (P0 : Nat → Int) (left w : Int) (r0 : Nat) (k : Nat) (s : Int × Int × (Nat → Int)) : Int × Int × (Nat → Int) :=
  let a := sPt P0 left w (r0 + k) + (if 0 < s.1 then 1 else 0)
  let e := (P0 (52 + 3 * (r0 + k))).toNat
  (s.1 - (if 0 < s.1 then 1 else 0), s.2.1 + sIs s.2.2 e a, sPut s.2.2 e a)
/-- the rules of kind 4 from r0 on, n of them, share what is left: what was taken, the plan -/
def sShare (P : Nat → Int) (r0 n : Nat) (left : Int) : Int × (Nat → Int) :=
  let w := sWt P r0 n
  let c := left - sSum (fun k => sPt P left w (r0 + k)) n
  (sIt (sShT P left w r0) (c, 0, P) n).2
/-- how many rules of kind 4 follow one another from r on (at most n are looked at) -/
def sRun (P : Nat → Int) : Nat → Nat → Nat
  | 0, _ => 0
  | n + 1, r => if (r : Int) < P 8 ∧ P (51 + 3 * r) = 4 then sRun P n (r + 1) + 1 else 0
/-- what a rule (not of kind 4) wants of an income -/
def sWant (P : Nat → Int) (r : Nat) (amount left : Int) : Int :=
  let k := P (51 + 3 * r)
  let v := P (53 + 3 * r)
  if k = 0 then v else if k = 1 then (amount * v).tdiv 100 else if k = 2 then (left * v).tdiv 100 else if P (12 + 4 * (P (52 + 3 * r)).toNat) < 0 then 0 else left
/-- a turn of the rules: the rule, what is left, the plan -/
def sRecT (amount : Int) (_ : Nat) (s : Nat × Int × (Nat → Int)) : Nat × Int × (Nat → Int) :=
  let r := s.1
  let left := s.2.1
  let P := s.2.2
  if (r : Int) < P 8 then
    if P (51 + 3 * r) = 4 then
      let n := sRun P 6 r
      (r + n, left - (sShare P r n left).1, (sShare P r n left).2)
    else
      let a := min left (sWant P r amount left)
      let e := (P (52 + 3 * r)).toNat
      (r + 1, left - sIs P e a, sPut P e a)
  else s
/-- an income: what comes to the pool, the plan -/
def sRec (P : Nat → Int) (amount : Int) : Int × (Nat → Int) :=
  let s := sIt (sRecT amount) (0, amount, P) 6
  (s.2.1, pu (pu s.2.2 0 (s.2.2 0 + s.2.1)) 2 (s.2.2 2 + amount))
