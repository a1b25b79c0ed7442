theorem itm4 {P : Nat → Int} {v : Int} {k : Nat} (H : pOkL P v k) (hk : (k : Int) < P 10) (hv : v + 1 ≤ 800000000) : P 4 ≤ sItmT k P 4 := by
  unfold sItmT
  split
  · rename_i hd
    have h1 := pOkL_due H hk hd
    have e4 : pu P (103 + 6 * k) (P (103 + 6 * k) + P (102 + 6 * k)) 4 = P 4 := pu_n (by omega)
    have e10 : pu P (103 + 6 * k) (P (103 + 6 * k) + P (102 + 6 * k)) 10 = P 10 := pu_n (by omega)
    generalize pu P (103 + 6 * k) (P (103 + 6 * k) + P (102 + 6 * k)) = P1 at h1 e4 e10 ⊢
    dsimp only
    obtain ⟨q1, q2⟩ := h1.2.2.2.2.2.2.2.2 k (by omega)
    obtain ⟨z1, z2, z3, z4⟩ := q1
    have h7 := h1.1.1
    have k4 : keyI 4 := by unfold keyI; omega
    split
    · have hi := pOkL_inc h1 (a := P1 (101 + 6 * k)) (by omega) (by omega)
      have hg := sInc_ok h1.1 h1.2.1 h1.2.2.2.1 (a := P1 (101 + 6 * k)) (by omega) (by omega)
      have hs := sSet_ok (u := 1000000000000000) hi.1 hi.2.2.1 hi.2.2.2.1 (by have := hi.2.2.2.2.1; omega) (by omega)
      rw [hs.1 4 k4, hg.1 4 k4, e4]; exact Int.le_refl _
    · split
      · rename_i hp
        have he : (P1 (100 + 6 * k)).toNat < 10 := by omega
        have hi := pOkL_pay h1 he (a := P1 (101 + 6 * k)) (by omega) hp
        have hg := sPay_ok h1.2.2.2.1 he (a := P1 (101 + 6 * k)) (by omega) hp
        have hs := sSet_ok (u := 1000000000000000) hi.1 hi.2.2.1 hi.2.2.2.1 (by have := hi.2.2.2.2.1; omega) (by omega)
        rw [hs.1 4 k4, hg.1 4 k4, e4]; exact Int.le_refl _
      · rw [pu_s, pu_n (by omega), e4]; omega
  · exact Int.le_refl _
theorem itms4 {P : Nat → Int} {v : Int} (H : pOkL P v 0) (hv : v + 8 ≤ 800000000) : ∀ k : Nat, (k : Int) ≤ P 10 → P 4 ≤ sIt sItmT P k 4
  | 0, _ => Int.le_refl _
  | k + 1, hk => by
    obtain ⟨a, b, c⟩ := pOkL_itms H hv k (by omega)
    have t := H.2.2.2.2.2.2.2.1
    rw [sIt_succ]
    exact Int.le_trans (itms4 H hv k (by omega)) (itm4 a (by rw [c]; omega) (by omega))
theorem day4 {P : Nat → Int} {v : Int} (H : pOk P v) (hv : v + 9 ≤ 800000000) : P 4 ≤ sDay P 4 := by
  have t := H.2.2.2.2.2.2.2.1
  have h1 := pOkL_day H
  have e10 : pu P 1 (P 1 + 1) 10 = P 10 := pu_n (by omega)
  have e4 : pu P 1 (P 1 + 1) 4 = P 4 := pu_n (by omega)
  obtain ⟨a, b, c⟩ := pOkL_itms h1 (by omega) (P 10).toNat (by rw [e10]; omega)
  have h4 := itms4 h1 (by omega) (P 10).toNat (by rw [e10]; omega)
  rw [e4] at h4
  have a8 := pOkL_all a (by rw [c, e10]; omega)
  have k4 : keyI 4 := by unfold keyI; omega
  unfold sDay
  split
  · have hr := pOkL_roll a8
    have hg := sRoll_ok a8.2.2.2.1 (sIt sItmT (pu P 1 (P 1 + 1)) (P 10).toNat 7).toNat (by have := a8.1.1; omega)
    have hs := sSet_ok (u := 1000000000000000) hr.1 hr.2.2.1 hr.2.2.2.1 (by have := hr.2.2.2.2.1; omega) (by omega)
    rw [hs.1 4 k4]; exact Int.le_trans h4 (Int.le_of_eq (hg.1 4 k4).symm)
  · exact h4
theorem days4 {P : Nat → Int} {v : Int} (H : pOk P v) : ∀ n k : Nat, v + 9 * ((n + k : Nat) : Int) ≤ 800000000 → sDays P n 4 ≤ sDays P (n + k) 4
  | n, 0, _ => Int.le_refl _
  | n, k + 1, hn => Int.le_trans (days4 H n k (by omega)) (day4 (pOk_days H (n + k) (by omega)).1 (by omega))
