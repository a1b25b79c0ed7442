theorem sMv_ok {P : Nat → Int} {fr to a : Int} (c : capOk P) (m : mny P) (h1 : fr = -1 ∨ (0 ≤ fr ∧ fr < P 7)) (h2 : to = -1 ∨ (0 ≤ to ∧ to < P 7)) (hne : fr ≠ to) (a0 : 0 ≤ a) (ha : a ≤ sMon P fr) : agI P (sMv P fr to a) ∧ mny (sMv P fr to a) ∧ sMv P fr to a 2 = P 2 ∧ 0 ≤ sMvN P to a ∧ sMvN P to a ≤ a := by
  have h7 := c.1
  obtain ⟨m0, m3, mb, mc⟩ := m
  by_cases ht : to = -1
  · subst ht
    have hf : ¬ fr = -1 := hne
    obtain ⟨s0, hs⟩ : ∃ q : Nat, fr = q := ⟨fr.toNat, by omega⟩
    subst hs
    have hs10 : s0 < 10 := by omega
    unfold sMon at ha
    rw [if_neg hf, Int.toNat_natCast] at ha
    have key : sMv P s0 (-1) a = pu (pu P 0 (P 0 + a)) (11 + 4 * s0) (P (11 + 4 * s0) - a) := by
      simp only [sMv, sMvN, ↓reduceIte, if_neg hf, Int.toNat_natCast]
      rw [pu_n (P := P) (k := 0) (j := 11 + 4 * s0) (by omega)]
    have kn : sMvN P (-1) a = a := by simp only [sMvN, ↓reduceIte]
    rw [key, kn]
    refine ⟨agI_pu (agI_pu agI.rf (by unfold keyI; omega)) (by unfold keyI; omega), ⟨by rw [pu_n (by omega), pu_s]; omega, by rw [pu_n (by omega), pu_n (by omega)]; exact m3, fun j hj => ?_, ?_⟩, by rw [pu_n (by omega), pu_n (by omega)], a0, Int.le_refl a⟩
    · by_cases hz : j = s0
      · subst hz; rw [pu_s]; omega
      · rw [pu_n (by omega), pu_n (by omega)]; exact mb j hj
    · rw [bS_up hs10, bS_un (by omega), pu_n (by omega), pu_s, pu_n (by omega), pu_n (by omega), pu_n (by omega), pu_n (by omega), pu_n (by omega)]
      omega
  · obtain ⟨t0, hs⟩ : ∃ q : Nat, to = q := ⟨to.toNat, by omega⟩
    subst hs
    have ht10 : t0 < 10 := by omega
    have hi := sIs_le (P := P) (e := t0) a0
    have kn : sMvN P t0 a = sIs P t0 a := by simp only [sMvN, if_neg ht, Int.toNat_natCast]
    have hp : sPut P t0 a = pu P (11 + 4 * t0) (P (11 + 4 * t0) + sIs P t0 a) := rfl
    by_cases hf : fr = -1
    · subst hf
      unfold sMon at ha
      rw [if_pos rfl] at ha
      have key : sMv P (-1) t0 a = pu (pu P (11 + 4 * t0) (P (11 + 4 * t0) + sIs P t0 a)) 0 (P 0 - sIs P t0 a) := by
        simp only [sMv, kn, ↓reduceIte, if_neg ht, Int.toNat_natCast, hp]
        rw [pu_n (P := P) (j := 0) (by omega)]
      rw [key, kn]
      refine ⟨agI_pu (agI_pu agI.rf (by unfold keyI; omega)) (by unfold keyI; omega), ⟨by rw [pu_s]; omega, by rw [pu_n (by omega), pu_n (by omega)]; exact m3, fun j hj => ?_, ?_⟩, by rw [pu_n (by omega), pu_n (by omega)], hi.1, hi.2⟩
      · rw [pu_n (by omega)]
        by_cases hz : j = t0
        · subst hz; rw [pu_s]; have := mb j hj; omega
        · rw [pu_n (by omega)]; exact mb j hj
      · rw [bS_un (by omega), bS_up ht10, pu_s, pu_n (by omega), pu_n (by omega), pu_n (by omega), pu_n (by omega)]
        omega
    · obtain ⟨s0, hs⟩ : ∃ q : Nat, fr = q := ⟨fr.toNat, by omega⟩
      subst hs
      have hs10 : s0 < 10 := by omega
      have hst : s0 ≠ t0 := by intro h; subst h; exact hne rfl
      unfold sMon at ha
      rw [if_neg hf, Int.toNat_natCast] at ha
      have key : sMv P s0 t0 a = pu (pu P (11 + 4 * t0) (P (11 + 4 * t0) + sIs P t0 a)) (11 + 4 * s0) (P (11 + 4 * s0) - sIs P t0 a) := by
        simp only [sMv, kn, if_neg hf, if_neg ht, Int.toNat_natCast, hp]
        rw [pu_n (P := P) (j := 11 + 4 * s0) (by omega)]
      rw [key, kn]
      refine ⟨agI_pu (agI_pu agI.rf (by unfold keyI; omega)) (by unfold keyI; omega), ⟨by rw [pu_n (by omega), pu_n (by omega)]; exact m0, by rw [pu_n (by omega), pu_n (by omega)]; exact m3, fun j hj => ?_, ?_⟩, by rw [pu_n (by omega), pu_n (by omega)], hi.1, hi.2⟩
      · by_cases hz : j = s0
        · subst hz; rw [pu_s]; omega
        · rw [pu_n (by omega)]
          by_cases hz : j = t0
          · subst hz; rw [pu_s]; have := mb j hj; omega
          · rw [pu_n (by omega)]; exact mb j hj
      · rw [bS_up hs10, bS_up ht10, pu_n (by omega), pu_n (by omega), pu_n (by omega), pu_n (by omega), pu_n (by omega), pu_n (by omega), pu_n (by omega)]
        omega
theorem pOkL_mv {P : Nat → Int} {v fr to a : Int} {lo : Nat} (H : pOkL P v lo) (h1 : fr = -1 ∨ (0 ≤ fr ∧ fr < P 7)) (h2 : to = -1 ∨ (0 ≤ to ∧ to < P 7)) (hne : fr ≠ to) (a0 : 0 ≤ a) (ha : a ≤ sMon P fr) : pOkL (sMv P fr to a) v lo := by
  obtain ⟨g, m, q, _⟩ := sMv_ok H.1 H.2.2.2.1 h1 h2 hne a0 ha
  exact pOkL_ag H g m (by rw [q]; exact H.2.2.2.2.1) (by omega)
/-- the money's steps: what the call answers, the plan -/
def sMm (P : Nat → Int) (kd a b x : Int) : Int × (Nat → Int) :=
  if kd = 9 then ((sInc P a).1, sSet (sInc P a).2) else if kd = 10 then (b - min (P (11 + 4 * a.toNat)) b, sSet (sPay P a.toNat b)) else (sMvN P b x, sSet (sMv P a b x))
/-- a step that isn't refused: what its call answers, the plan -/
def sPf (P : Nat → Int) (kd a b x y : Int) : Int × (Nat → Int) :=
  if kd = 0 then (P 7, sAppE P (P 7).toNat a b)
  else if kd = 1 then (P (12 + 4 * a.toNat), pu P (12 + 4 * a.toNat) b)
  else if kd = 2 then (P (13 + 4 * a.toNat), pu P (13 + 4 * a.toNat) b)
  else if kd = 3 then (P 8, sApp3 P (P 8).toNat a b x)
  else if kd = 4 then (P 8 - 1, sRem P 51 3 8 a.toNat)
  else if kd = 5 then (P 9, sApp5 P (P 9).toNat a b x y)
  else if kd = 6 then (P 9 - 1, sRem P 69 5 9 a.toNat)
  else if kd = 7 then (P 10, sApp6 P (P 10).toNat a b x y (P 1 + y))
  else if kd = 8 then (P 10 - 1, sRem P 99 6 10 a.toNat)
  else if kd = 12 then (sDays P a.toNat 4 - P 4, sDays P a.toNat)
  else sMm P kd a b x
def nmO (P : Nat → Int) (kd a b : Int) : Prop := nmP P kd a b
def mnO (P : Nat → Int) (kd a b x : Int) : Prop := mnP P kd a b x
theorem nmO.sp {P : Nat → Int} {kd a b : Int} (h : nmO P kd a b) (hk : kd = 10) : 0 ≤ a ∧ a < P 7 := by have h2 : nmP P kd a b := h; exact h2.1 (Or.inr (Or.inr hk))
theorem nmO.mv {P : Nat → Int} {kd a b : Int} (h : nmO P kd a b) (hk : kd = 11) : (a = -1 ∨ 0 ≤ a ∧ a < P 7) ∧ (b = -1 ∨ 0 ≤ b ∧ b < P 7) := by have h2 : nmP P kd a b := h; exact h2.2.2.2.2.2.2.2 hk
theorem mnO.sp {P : Nat → Int} {kd a b x : Int} (h : mnO P kd a b x) (hk : kd = 10) : b ≤ P (11 + 4 * a.toNat) + P 0 := by have h2 : mnP P kd a b x := h; exact h2.1 hk
theorem mnO.mv {P : Nat → Int} {kd a b x : Int} (h : mnO P kd a b x) (hk : kd = 11) : x ≤ sMon P a := by have h2 : mnP P kd a b x := h; exact h2.2 hk
