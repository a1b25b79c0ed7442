/-! ===== the reference's branches against the plans, parts and counts ===== -/
/-- branch k lies in the reference's rows -/
def mBr (M St Mn Pr : Nat → Int) (k : Nat) (B P T : Nat → Int) (sc : Nat) (pr : Int) : Prop := (∀ i, i < 147 → M (294 * k + i) = P i) ∧ (∀ i, i < 147 → M (294 * k + 147 + i) = B i) ∧ (∀ j, j < 5 * sc → St (300 * k + j) = T j) ∧ Mn k = sc ∧ Pr k = pr
def mRel (M St Mn Pr : Nat → Int) (B P T : Nat → Nat → Int) (sc : Nat → Nat) (pr ex : Nat → Int) : Prop := ∀ k, k < 6 → (ex k = 1 → mBr M St Mn Pr k (B k) (P k) (T k) (sc k) (pr k)) ∧ (ex k ≠ 1 → Mn k = -1)
theorem mpAt_of {g : gE} {f : gF} {h a : Nat} {M P : Nat → Int} (H : arJ g f (h + 1) 2058 M) (e : ∀ i, i < 147 → M (a + i) = P i) : mpAt g f h M a P := H.cong (fun k _ => by
  simp only [mov]; split
  · rename_i q; rw [← e _ (by omega)]; congr 1; omega
  · rfl)
/-- five numbers laid from o on -/
def lay5 (S : Nat → Int) (o : Nat) (kd a b x y : Int) : Nat → Int := pu (pu (pu (pu (pu S o kd) (o + 1) a) (o + 2) b) (o + 3) x) (o + 4) y
theorem lay5_n {S : Nat → Int} {o j : Nat} {kd a b x y : Int} (h : j < o ∨ o + 5 ≤ j) : lay5 S o kd a b x y j = S j := by
  unfold lay5; rw [pu_n (by omega), pu_n (by omega), pu_n (by omega), pu_n (by omega), pu_n (by omega)]
theorem lay5_rcd {S T : Nat → Int} {o sc j : Nat} {kd a b x y : Int} (h : ∀ j, j < 5 * sc → S (o + j) = T j) (hj : j < 5 * (sc + 1)) : lay5 S (o + 5 * sc) kd a b x y (o + j) = rcd T sc kd a b x y j := by
  unfold lay5 rcd
  simp only [pu]
  by_cases e : j < 5 * sc
  · rw [if_neg (by omega), if_neg (by omega), if_neg (by omega), if_neg (by omega), if_neg (by omega), if_neg (by omega), if_neg (by omega), if_neg (by omega), if_neg (by omega), if_neg (by omega)]
    exact h j e
  · (repeat' split) <;> first | rfl | omega
theorem mRel_plan {M St Mn Pr Q : Nat → Int} {B P T : Nat → Nat → Int} {sc : Nat → Nat} {pr ex : Nat → Int} {ps : Nat} (R : mRel M St Mn Pr B P T sc pr ex) : mRel (mov M (294 * ps) Q) St Mn Pr B (fu P ps Q) T sc pr ex := fun k hk => by
  refine ⟨fun hx => ?_, (R k hk).2⟩
  obtain ⟨a, b, c, d, e⟩ := (R k hk).1 hx
  refine ⟨fun i hi => ?_, fun i hi => by rw [mov_n (by omega)]; exact b i hi, c, d, e⟩
  by_cases hz : k = ps
  · subst hz; rw [mov_at rfl hi, fu_s]
  · rw [mov_n (by omega), fu_n hz]; exact a i hi
theorem mRel_scr {M M1 St Mn Pr : Nat → Int} {B P T : Nat → Nat → Int} {sc : Nat → Nat} {pr ex : Nat → Int} (R : mRel M St Mn Pr B P T sc pr ex) (e : ∀ j, j < 1764 → M1 j = M j) : mRel M1 St Mn Pr B P T sc pr ex := fun k hk => by
  refine ⟨fun hx => ?_, (R k hk).2⟩
  obtain ⟨a, b, c⟩ := (R k hk).1 hx
  exact ⟨fun i hi => by rw [e _ (by omega)]; exact a i hi, fun i hi => by rw [e _ (by omega)]; exact b i hi, c⟩
theorem mRel_lay {M St Mn Pr : Nat → Int} {B P T : Nat → Nat → Int} {sc : Nat → Nat} {pr ex : Nat → Int} {ps : Nat} {kd a b x y : Int} (R : mRel M St Mn Pr B P T sc pr ex) (hps : ps < 6) (hpx : ex ps = 1) (hsc : ∀ k, k < 6 → ex k = 1 → sc k ≤ 60) (h60 : sc ps < 60) : mRel M (lay5 St (300 * ps + 5 * sc ps) kd a b x y) (pu Mn ps (↑(sc ps) + 1)) Pr B P (fu T ps (rcd (T ps) (sc ps) kd a b x y)) (fu sc ps (sc ps + 1)) pr ex := fun k hk => by
  by_cases hz : k = ps
  · subst hz
    refine ⟨fun hx => ?_, fun hx => absurd hpx hx⟩
    obtain ⟨a, b, c, d, e⟩ := (R k hk).1 hx
    refine ⟨a, b, fun j hj => ?_, by rw [pu_s, fu_s]; omega, e⟩
    rw [fu_s] at hj ⊢
    exact lay5_rcd c hj
  · refine ⟨fun hx => ?_, fun hx => by rw [pu_n hz]; exact (R k hk).2 hx⟩
    obtain ⟨a, b, c, d, e⟩ := (R k hk).1 hx
    have := hsc k hk hx
    refine ⟨a, b, fun j hj => ?_, by rw [pu_n hz, fu_n hz]; exact d, e⟩
    rw [fu_n hz] at hj ⊢
    rw [lay5_n (by omega)]
    exact c j hj
/-- the object behind a step: where it stood, why refused, the reason -/
def zSt (Z : Nat → Int) (aa rf : Int) : Nat → Int := fun k => if k = 11 then aa else if k = 15 then rf else if k = 12 then (if rf = 0 then Z 12 else rf) else Z k
def tAn (P T : Nat → Nat → Int) (sc : Nat → Nat) (ps : Nat) (kd a b x y : Int) : Int := if tRf P T sc ps kd a b x y = 0 then (sPf (P ps) kd a b x y).1 else 0
theorem does_t {P T : Nat → Nat → Int} {sc : Nat → Nat} {ps : Nat} {kd a b x y fl : Int} (h : fl = 1 ↔ 60 ≤ sc ps) : dRf (P ps) kd a b x y fl = tRf P T sc ps kd a b x y ∧ dA (P ps) kd a b x y fl = tAn P T sc ps kd a b x y ∧ fu P ps (dP (P ps) kd a b x y fl) = tP P T sc ps kd a b x y := by
  have e : dRf (P ps) kd a b x y fl = tRf P T sc ps kd a b x y := ref_c h
  unfold dA dP tAn tP
  rw [e]
  refine ⟨rfl, rfl, ?_⟩
  split
  · rfl
  · funext k; by_cases hz : k = ps
    · subst hz; rw [fu_s]
    · rw [fu_n hz]
/-- the thrown code of a step -/
def tld (rf x y z : Int) : Int := if rf = 0 then 0 else if rf = 1 then x else if rf = 2 then y else z
