/-- the planner's own object -/
def obP (f : gF) (h : Nat) (sv rs an cs cr : Int) : Prop := f h = .inr (10, [.ref (h + 1), .ref (h + 291), .ref (h + 581), .ref (h + 604), .int (zI sv), .int (zI rs), .int (zI an), .int (zI cs), .int (zI cr)])
theorem obP.kept {f f1 : gF} {h : Nat} {sv rs an cs cr : Int} (H : obP f h sv rs an cs cr) (e : f1 h = f h) : obP f1 h sv rs an cs cr := e.trans H
theorem hbt : bI ((true : Bool) = true) = zI 1 := by decide
theorem hbf : bI ((false : Bool) = true) = zI 0 := by decide
theorem ref0 {P : Nat → Int} {kd a b x y : Int} {full : Prop} [Decidable full] (h : sRef P kd a b x y full = 0) : nmO P kd a b ∧ rgP kd a b x y ∧ ¬ full ∧ rmO P kd ∧ mnO P kd a b x := by
  unfold sRef at h
  split at h
  · rename_i h1
    split at h
    · rename_i h2
      split at h
      · rename_i h3
        split at h
        · rename_i h4
          exact ⟨h1, h2, h3.1, h3.2, h4⟩
        · omega
      · omega
    · omega
  · omega
theorem ref_in {P : Nat → Int} {kd a b x y : Int} {full : Prop} [Decidable full] : 0 ≤ sRef P kd a b x y full ∧ sRef P kd a b x y full ≤ 4 := by
  unfold sRef
  split
  · split
    · split
      · split <;> omega
      · omega
    · omega
  · omega
theorem ref_c {P : Nat → Int} {kd a b x y : Int} {f1 f2 : Prop} [Decidable f1] [Decidable f2] (h : f1 ↔ f2) : sRef P kd a b x y f1 = sRef P kd a b x y f2 := by
  have e : f1 = f2 := propext h
  subst e
  unfold sRef
  split
  · split
    · by_cases h3 : ¬ f1 ∧ rmP P kd
      · rw [if_pos h3, if_pos h3]
      · rw [if_neg h3, if_neg h3]
    · rfl
  · rfl
/-! a step on the present branch: plans, parts, counts, reason, answer -/
def tRf (P T : Nat → Nat → Int) (sc : Nat → Nat) (ps : Nat) (kd a b x y : Int) : Int := sRef (P ps) kd a b x y (60 ≤ sc ps)
def tP (P T : Nat → Nat → Int) (sc : Nat → Nat) (ps : Nat) (kd a b x y : Int) : Nat → Nat → Int := if tRf P T sc ps kd a b x y = 0 then fu P ps (sPf (P ps) kd a b x y).2 else P
def tT (P T : Nat → Nat → Int) (sc : Nat → Nat) (ps : Nat) (kd a b x y : Int) : Nat → Nat → Int := if tRf P T sc ps kd a b x y = 0 then fu T ps (rcd (T ps) (sc ps) kd a b x y) else T
def tS (P T : Nat → Nat → Int) (sc : Nat → Nat) (ps : Nat) (kd a b x y : Int) : Nat → Nat := if tRf P T sc ps kd a b x y = 0 then fu sc ps (sc ps + 1) else sc
def tR (P T : Nat → Nat → Int) (sc : Nat → Nat) (ps : Nat) (kd a b x y : Int) (rs : Int) : Int := if tRf P T sc ps kd a b x y = 0 then rs else tRf P T sc ps kd a b x y
def tA (P T : Nat → Nat → Int) (sc : Nat → Nat) (ps : Nat) (kd a b x y : Int) (an : Int) : Int := if tRf P T sc ps kd a b x y = 0 then (sPf (P ps) kd a b x y).1 else an
/-! replaying a branch's steps but one on another plan -/
def sRpT (T : Nat → Int) (sk bf : Int) (i : Nat) (s : Bool × Nat × (Nat → Int)) : Bool × Nat × (Nat → Int) :=
  if s.1 = true then s else if (i : Int) = sk then (false, i + 1, s.2.2) else if sRef s.2.2 (T (i * 5)) (T (i * 5 + 1)) (T (i * 5 + 2)) (T (i * 5 + 3)) (T (i * 5 + 4)) (60 ≤ bf + i) = 0 then (false, i + 1, (sPf s.2.2 (T (i * 5)) (T (i * 5 + 1)) (T (i * 5 + 2)) (T (i * 5 + 3)) (T (i * 5 + 4))).2) else (true, i, s.2.2)
def sRp (T : Nat → Int) (sk bf : Int) (X : Nat → Int) (n : Nat) : Bool × Nat × (Nat → Int) := sIt (sRpT T sk bf) (false, 0, X) n
/-- the parts of n steps are in order -/
def tOk (T : Nat → Int) (n : Nat) : Prop := ∀ j, j < n → (0 ≤ T (j * 5) ∧ T (j * 5) ≤ 12) ∧ rI (T (j * 5 + 1)) ∧ rI (T (j * 5 + 2)) ∧ rI (T (j * 5 + 3)) ∧ rI (T (j * 5 + 4))
theorem sRp_stop {T : Nat → Int} {sk bf : Int} {X : Nat → Int} {i : Nat} (h : (sRp T sk bf X i).1 = true) : ∀ d, sRp T sk bf X (i + d) = sRp T sk bf X i
  | 0 => rfl
  | d + 1 => by
    have := sRp_stop h d
    show sRpT T sk bf (i + d) (sRp T sk bf X (i + d)) = _
    rw [this]
    unfold sRpT
    rw [if_pos h]
theorem sRp_cnt {T : Nat → Int} {sk bf : Int} {X : Nat → Int} : ∀ {n : Nat}, ((sRp T sk bf X n).1 = false → (sRp T sk bf X n).2.1 = n) ∧ ((sRp T sk bf X n).1 = true → (sRp T sk bf X n).2.1 < n)
  | 0 => ⟨fun _ => rfl, fun h => absurd h Bool.false_ne_true⟩
  | n + 1 => by
    have ih := sRp_cnt (T := T) (sk := sk) (bf := bf) (X := X) (n := n)
    have e : sRp T sk bf X (n + 1) = sRpT T sk bf n (sRp T sk bf X n) := rfl
    rw [e]
    by_cases h : (sRp T sk bf X n).1 = true
    · unfold sRpT
      rw [if_pos h]
      exact ⟨fun h2 => by rw [h] at h2; exact absurd h2.symm Bool.false_ne_true, fun _ => by have := ih.2 h; omega⟩
    · unfold sRpT
      rw [if_neg h]
      split
      · exact ⟨fun _ => rfl, fun h => absurd h Bool.false_ne_true⟩
      · split
        · exact ⟨fun _ => rfl, fun h => absurd h Bool.false_ne_true⟩
        · exact ⟨fun h2 => absurd h2.symm Bool.false_ne_true, fun _ => Nat.lt_succ_self n⟩
theorem sRp_ok {T : Nat → Int} {sk bf : Int} {X : Nat → Int} {v : Int} {N : Nat} (H : pOk X v) (hv0 : 0 ≤ v) (hT : tOk T N) : ∀ {n : Nat}, n ≤ N → v + 541 * n ≤ 800000000 → pOk (sRp T sk bf X n).2.2 (v + 541 * n)
  | 0, _, _ => by
    rw [show v + 541 * ((0 : Nat) : Int) = v by omega]; exact H
  | n + 1, hn, hv => by
    have ih := sRp_ok (sk := sk) (bf := bf) H hv0 hT (n := n) (by omega) (by omega)
    have e : sRp T sk bf X (n + 1) = sRpT T sk bf n (sRp T sk bf X n) := rfl
    rw [e]
    unfold sRpT
    split
    · exact pOkL_mono ih (by omega)
    · split
      · exact pOkL_mono ih (by omega)
      · split
        · rename_i h3
          obtain ⟨a, b, c, d, e9⟩ := ref0 h3
          have t := hT n (by omega)
          rw [show v + 541 * ((n + 1 : Nat) : Int) = (v + 541 * (n : Int)) + 541 by omega]
          exact pOk_pf ih (by omega) (by omega) t.1 a b d e9
        · exact pOkL_mono ih (by omega)
/-- an amount can be spared of an envelope for some days -/
def sSpr (P : Nat → Int) (e : Nat) (a : Int) (d : Nat) : Prop := a ≤ P (11 + 4 * e) + P 0 ∧ ∀ k, k < d → sDays (sSet (sPay P e a)) (k + 1) 4 ≤ sDays (sSet (sPay P e a)) k 4
theorem sSpr_up {P : Nat → Int} {e : Nat} {a : Int} {i : Nat} (h : ∀ k, k < i → sDays (sSet (sPay P e a)) (k + 1) 4 ≤ sDays (sSet (sPay P e a)) k 4) (h2 : sDays (sSet (sPay P e a)) (i + 1) 4 ≤ sDays (sSet (sPay P e a)) i 4) : ∀ k, k < i + 1 → sDays (sSet (sPay P e a)) (k + 1) 4 ≤ sDays (sSet (sPay P e a)) k 4 := fun k hk => by
  by_cases e9 : k = i
  · subst e9; exact h2
  · exact h k (by omega)
theorem pOk_b {P : Nat → Int} {v : Int} {e : Nat} (H : pOk P v) (hv : v ≤ 800000000) (he : (e : Int) < P 7) : (0 ≤ P (11 + 4 * e) ∧ P (11 + 4 * e) ≤ 1000000000000000000) ∧ (0 ≤ P 0 ∧ P 0 ≤ 1000000000000000000) := by
  have w := (pOkL_wfS H hv).E
  have q := w.2 e (by have := w.1; omega)
  have p := pOk_pool H hv
  omega
theorem pOk_P4 {P : Nat → Int} {v : Int} (H : pOk P v) : 0 ≤ P 4 ∧ P 4 ≤ v := H.2.2.2.2.2.2.1
theorem pOk_P1 {P : Nat → Int} {v : Int} (H : pOk P v) : 0 ≤ P 1 ∧ P 1 ≤ v := H.2.2.2.2.2.1
