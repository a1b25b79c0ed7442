/-! ===== replaying ===== -/
theorem sRp_succ {T : Nat → Int} {sk bf : Int} {X : Nat → Int} {i : Nat} : sRp T sk bf X (i + 1) = sRpT T sk bf i (sRp T sk bf X i) := rfl
theorem sRp_skip {T : Nat → Int} {sk bf : Int} {X Y : Nat → Int} {i : Nat} (h : sRp T sk bf X i = (false, i, Y)) (hs : (i : Int) = sk) : sRp T sk bf X (i + 1) = (false, i + 1, Y) := by
  rw [sRp_succ, h]; unfold sRpT; rw [if_neg (by exact Bool.false_ne_true), if_pos hs]
theorem sRp_go {T : Nat → Int} {sk bf fl : Int} {X Y : Nat → Int} {i : Nat} (h : sRp T sk bf X i = (false, i, Y)) (hs : ¬ (i : Int) = sk) (hf : fl = 1 ↔ 60 ≤ bf + i) (h0 : dRf Y (T (i * 5)) (T (i * 5 + 1)) (T (i * 5 + 2)) (T (i * 5 + 3)) (T (i * 5 + 4)) fl = 0) : sRp T sk bf X (i + 1) = (false, i + 1, dP Y (T (i * 5)) (T (i * 5 + 1)) (T (i * 5 + 2)) (T (i * 5 + 3)) (T (i * 5 + 4)) fl) ∧ ¬ 60 ≤ bf + i := by
  have e : sRef Y (T (i * 5)) (T (i * 5 + 1)) (T (i * 5 + 2)) (T (i * 5 + 3)) (T (i * 5 + 4)) (60 ≤ bf + i) = 0 := by rw [← ref_c hf]; exact h0
  refine ⟨?_, (ref0 e).2.2.1⟩
  rw [sRp_succ, h]; unfold sRpT
  rw [if_neg (by exact Bool.false_ne_true), if_neg hs]
  dsimp only
  rw [if_pos e]
  unfold dP
  rw [if_pos h0]
theorem sRp_no {T : Nat → Int} {sk bf fl : Int} {X Y : Nat → Int} {i N : Nat} (h : sRp T sk bf X i = (false, i, Y)) (hs : ¬ (i : Int) = sk) (hf : fl = 1 ↔ 60 ≤ bf + i) (h0 : ¬ dRf Y (T (i * 5)) (T (i * 5 + 1)) (T (i * 5 + 2)) (T (i * 5 + 3)) (T (i * 5 + 4)) fl = 0) (hN : i < N) : sRp T sk bf X N = (true, i, Y) ∧ dRf Y (T (i * 5)) (T (i * 5 + 1)) (T (i * 5 + 2)) (T (i * 5 + 3)) (T (i * 5 + 4)) fl = sRef Y (T (i * 5)) (T (i * 5 + 1)) (T (i * 5 + 2)) (T (i * 5 + 3)) (T (i * 5 + 4)) (60 ≤ bf + i) := by
  have e : dRf Y (T (i * 5)) (T (i * 5 + 1)) (T (i * 5 + 2)) (T (i * 5 + 3)) (T (i * 5 + 4)) fl = sRef Y (T (i * 5)) (T (i * 5 + 1)) (T (i * 5 + 2)) (T (i * 5 + 3)) (T (i * 5 + 4)) (60 ≤ bf + i) := ref_c hf
  rw [e] at h0
  have h1 : sRp T sk bf X (i + 1) = (true, i, Y) := by
    rw [sRp_succ, h]; unfold sRpT
    rw [if_neg (by exact Bool.false_ne_true), if_neg hs]
    dsimp only
    rw [if_neg h0]
  have h2 := sRp_stop (T := T) (sk := sk) (bf := bf) (X := X) (i := i + 1) (by rw [h1]) (N - (i + 1))
  rw [show i + 1 + (N - (i + 1)) = N by omega, h1] at h2
  exact ⟨h2, e⟩
def shS (S : Nat → Int) (lo j : Nat) : Nat → Int := fun k => if lo ≤ k ∧ k < j then S (k + 5) else S k
theorem mRel_drop {M M1 St Mn Pr X : Nat → Int} {B P T : Nat → Nat → Int} {sc : Nat → Nat} {pr ex : Nat → Int} {ps w0 : Nat} (R : mRel M St Mn Pr B P T sc pr ex) (hps : ps < 6) (hpx : ex ps = 1) (hscs : ∀ k, k < 6 → ex k = 1 → sc k ≤ 60) (hw : w0 < sc ps) (e1 : ∀ i, i < 147 → M1 (294 * ps + i) = X i) (e2 : ∀ j, j < 1764 → (j < 294 * ps ∨ 294 * ps + 147 ≤ j) → M1 j = M j) : mRel M1 (shS St (300 * ps + 5 * w0) (300 * ps + 5 * (sc ps - 1))) (pu Mn ps (↑(sc ps) - 1)) Pr B (fu P ps X) (fu T ps (shP (T ps) (w0 * 5) ((sc ps - 1) * 5))) (fu sc ps (sc ps - 1)) pr ex := fun k hk => by
  have hs := hscs ps hps hpx
  by_cases hz : k = ps
  · subst hz
    refine ⟨fun hx => ?_, fun hx => absurd hpx hx⟩
    obtain ⟨a, b, c, d, e⟩ := (R k hk).1 hx
    rw [fu_s, fu_s, fu_s]
    refine ⟨e1, fun i hi => by rw [e2 _ (by omega) (by omega)]; exact b i hi, fun j hj => ?_, by rw [pu_s]; omega, e⟩
    simp only [shS, shP]
    by_cases hj2 : w0 * 5 ≤ j
    · rw [if_pos ⟨by omega, by omega⟩, if_pos ⟨by omega, by omega⟩, Nat.add_assoc]
      exact c (j + 5) (by omega)
    · rw [if_neg (by omega), if_neg (by omega)]
      exact c j (by omega)
  · refine ⟨fun hx => ?_, fun hx => by rw [pu_n hz]; exact (R k hk).2 hx⟩
    obtain ⟨a, b, c, d, e⟩ := (R k hk).1 hx
    have := hscs k hk hx
    rw [fu_n hz, fu_n hz, fu_n hz]
    refine ⟨fun i hi => by rw [e2 _ (by omega) (by omega)]; exact a i hi, fun i hi => by rw [e2 _ (by omega) (by omega)]; exact b i hi, fun j hj => ?_, by rw [pu_n hz]; exact d, e⟩
    simp only [shS]
    rw [if_neg (by omega)]
    exact c j hj
/-- i steps of O laid behind sc others, from o on -/
def mrgS (S : Nat → Int) (o sc : Nat) (O : Nat → Int) (i : Nat) : Nat → Int := sIt (fun k t => lay5 t (o + 5 * (sc + k)) (O (k * 5)) (O (k * 5 + 1)) (O (k * 5 + 2)) (O (k * 5 + 3)) (O (k * 5 + 4))) S i
theorem mrgS_n {S : Nat → Int} {o sc : Nat} {O : Nat → Int} {j : Nat} : ∀ {i : Nat}, (j < o ∨ o + 5 * (sc + i) ≤ j) → mrgS S o sc O i j = S j
  | 0, _ => rfl
  | i + 1, h => by
    show lay5 (mrgS S o sc O i) (o + 5 * (sc + i)) _ _ _ _ _ j = S j
    rw [lay5_n (by omega)]
    exact mrgS_n (by omega)
theorem mrgS_rc {S T : Nat → Int} {o sc : Nat} {O : Nat → Int} (h : ∀ j, j < 5 * sc → S (o + j) = T j) : ∀ i j, j < 5 * (sc + i) → mrgS S o sc O i (o + j) = rcAll T sc O i j
  | 0, j, hj => h j hj
  | i + 1, j, hj => by
    show lay5 (mrgS S o sc O i) (o + 5 * (sc + i)) _ _ _ _ _ (o + j) = rcd (rcAll T sc O i) (sc + i) _ _ _ _ _ j
    exact lay5_rcd (fun j hj => mrgS_rc h i j hj) (by omega)
theorem mRel_merge {M M1 St Mn Pr X : Nat → Int} {B P T : Nat → Nat → Int} {sc : Nat → Nat} {pr ex : Nat → Int} {p z : Nat} (R : mRel M St Mn Pr B P T sc pr ex) (hp : p < 6) (hpx : ex p = 1) (hz : z < 6) (hpz : p ≠ z) (hscs : ∀ k, k < 6 → ex k = 1 → sc k ≤ 60) (h60 : sc p + sc z ≤ 60) (e1 : ∀ i, i < 147 → M1 (294 * p + i) = X i) (e2 : ∀ j, j < 1764 → (j < 294 * p ∨ 294 * p + 147 ≤ j) → M1 j = M j) : mRel M1 (mrgS St (300 * p) (sc p) (T z) (sc z)) (pu (pu Mn p (↑(sc p) + ↑(sc z))) z (-1)) Pr B (fu P p X) (fu T p (rcAll (T p) (sc p) (T z) (sc z))) (fu sc p (sc p + sc z)) pr (fu ex z 0) := fun k hk => by
  by_cases h1 : k = z
  · subst h1
    exact ⟨fun hx => by rw [fu_s] at hx; exact absurd hx (by decide), fun _ => pu_s _ _ _⟩
  · rw [fu_n h1]
    by_cases h2 : k = p
    · subst h2
      refine ⟨fun hx => ?_, fun hx => absurd hpx hx⟩
      obtain ⟨a, b, c, d, e⟩ := (R k hk).1 hx
      rw [fu_s, fu_s, fu_s]
      exact ⟨e1, fun i hi => by rw [e2 _ (by omega) (by omega)]; exact b i hi, fun j hj => mrgS_rc c (sc z) j hj, by rw [pu_n h1, pu_s]; omega, e⟩
    · refine ⟨fun hx => ?_, fun hx => by rw [pu_n h1, pu_n h2]; exact (R k hk).2 hx⟩
      obtain ⟨a, b, c, d, e⟩ := (R k hk).1 hx
      have := hscs k hk hx
      rw [fu_n h2, fu_n h2, fu_n h2]
      exact ⟨fun i hi => by rw [e2 _ (by omega) (by omega)]; exact a i hi, fun i hi => by rw [e2 _ (by omega) (by omega)]; exact b i hi, fun j hj => by rw [mrgS_n (by omega)]; exact c j hj, by rw [pu_n h1, pu_n h2]; exact d, e⟩
