/-! ===== branches ===== -/
abbrev FD (ex : Nat → Int) (z : Int) : Prop := 0 ≤ z ∧ z < 6 ∧ ex z.toNat = 1
abbrev HELD (pr ex : Nat → Int) (ps : Nat) (z : Int) : Prop := z = 0 ∨ z = ↑ps ∨ 0 < sChd pr ex z 6
def mnOk (Mn : Nat → Int) (sc : Nat → Nat) (ex : Nat → Int) : Prop := ∀ k, k < 6 → (ex k = 1 → Mn k = ↑(sc k) ∧ sc k ≤ 60) ∧ (ex k ≠ 1 → Mn k = -1)
theorem mRel_mn {M St Mn Pr : Nat → Int} {B P T : Nat → Nat → Int} {sc : Nat → Nat} {pr ex : Nat → Int} (R : mRel M St Mn Pr B P T sc pr ex) (H : ∀ k, k < 6 → ex k = 1 → sc k ≤ 60) : mnOk Mn sc ex := fun k hk => ⟨fun hx => ⟨((R k hk).1 hx).2.2.2.1, H k hk hx⟩, (R k hk).2⟩
theorem mnOk_ex {Mn : Nat → Int} {sc : Nat → Nat} {ex : Nat → Int} {k : Nat} (H : mnOk Mn sc ex) (hk : k < 6) : rI (Mn k) ∧ (ex k = 1 ↔ 0 ≤ Mn k) := by
  obtain ⟨a, b⟩ := H k hk
  by_cases e : ex k = 1
  · obtain ⟨a1, a2⟩ := a e
    exact ⟨⟨by omega, by omega⟩, by omega⟩
  · have := b e
    exact ⟨⟨by omega, by omega⟩, by omega⟩
theorem sChd_up {pr ex : Nat → Int} {x : Int} {i : Nat} : sChd pr ex x (i + 1) = sChd pr ex x i + if ex i = 1 ∧ pr i = x then 1 else 0 := rfl
theorem sCnt_up {ex : Nat → Int} {i : Nat} : sCnt ex (i + 1) = sCnt ex i + if ex i = 1 then 1 else 0 := rfl
theorem sChd_in {pr ex : Nat → Int} {x : Int} : ∀ n : Nat, 0 ≤ sChd pr ex x n ∧ sChd pr ex x n ≤ n
  | 0 => ⟨Int.le_refl 0, Int.le_refl 0⟩
  | n + 1 => by
    have := sChd_in (pr := pr) (ex := ex) (x := x) n
    rw [sChd_up]
    split <;> omega
theorem sCnt_in {ex : Nat → Int} : ∀ n : Nat, 0 ≤ sCnt ex n ∧ sCnt ex n ≤ n
  | 0 => ⟨Int.le_refl 0, Int.le_refl 0⟩
  | n + 1 => by
    have := sCnt_in (ex := ex) n
    rw [sCnt_up]
    split <;> omega
def mOf (P : Nat → Int) (e : Int) : Int := if e = -1 ∨ (0 ≤ e ∧ e < P 7) then sMon P e else 0
def brV (B P T : Nat → Nat → Int) (sc : Nat → Nat) (pr ex : Nat → Int) (z w : Int) : Int := if w = 0 then pr z.toNat else if w = 1 then ↑(sc z.toNat) else if w = 2 then sChd pr ex z 6 else if w = 3 then P z.toNat 0 else if w = 4 then sSum (fun k => P z.toNat (11 + 4 * k)) (P z.toNat 7).toNat else P z.toNat 1
/-- a new branch -/
theorem mRel_fork {M M1 St Mn Pr : Nat → Int} {B P T : Nat → Nat → Int} {sc : Nat → Nat} {pr ex : Nat → Int} {ps b : Nat} {pv : Int} (R : mRel M St Mn Pr B P T sc pr ex) (e1 : ∀ i, i < 147 → M1 (294 * b + i) = P ps i) (e2 : ∀ i, i < 147 → M1 (294 * b + 147 + i) = P ps i) (e3 : ∀ j, j < 1764 → (j < 294 * b ∨ 294 * b + 294 ≤ j) → M1 j = M j) : mRel M1 St (pu Mn b 0) (pu Pr b pv) (fu B b (P ps)) (fu P b (P ps)) T (fu sc b 0) (fu pr b pv) (fu ex b 1) := fun k hk => by
  by_cases hz : k = b
  · subst hz
    refine ⟨fun _ => ?_, fun hx => absurd (fu_s ex k 1) hx⟩
    rw [fu_s, fu_s, fu_s, fu_s]
    exact ⟨e1, e2, fun j hj => by omega, by rw [pu_s]; rfl, pu_s _ _ _⟩
  · rw [fu_n hz, fu_n hz, fu_n hz, fu_n hz, fu_n hz]
    refine ⟨fun hx => ?_, fun hx => by rw [pu_n hz]; exact (R k hk).2 hx⟩
    obtain ⟨a, b9, c, d, e⟩ := (R k hk).1 hx
    exact ⟨fun i hi => by rw [e3 _ (by omega) (by omega)]; exact a i hi, fun i hi => by rw [e3 _ (by omega) (by omega)]; exact b9 i hi, c, by rw [pu_n hz]; exact d, by rw [pu_n hz]; exact e⟩
/-- a branch gone -/
theorem mRel_gone {M St Mn Pr : Nat → Int} {B P T : Nat → Nat → Int} {sc : Nat → Nat} {pr ex : Nat → Int} {b : Nat} (R : mRel M St Mn Pr B P T sc pr ex) : mRel M St (pu Mn b (-1)) Pr B P T sc pr (fu ex b 0) := fun k hk => by
  by_cases hz : k = b
  · subst hz
    exact ⟨fun hx => by rw [fu_s] at hx; exact absurd hx (by decide), fun _ => pu_s _ _ _⟩
  · rw [fu_n hz]
    refine ⟨fun hx => ?_, fun hx => by rw [pu_n hz]; exact (R k hk).2 hx⟩
    obtain ⟨a, b9, c, d, e⟩ := (R k hk).1 hx
    exact ⟨a, b9, c, by rw [pu_n hz]; exact d, e⟩
