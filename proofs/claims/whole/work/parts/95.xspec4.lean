theorem itm7 {P : Nat → Int} {v : Int} {k : Nat} (H : pOkL P v k) (hk : (k : Int) < P 10) (hv : v + 1 ≤ 800000000) : sItmT k P 7 = P 7 := by
  unfold sItmT
  split
  · rename_i hd
    have h1 := pOkL_due H hk hd
    have e7 : pu P (103 + 6 * k) (P (103 + 6 * k) + P (102 + 6 * k)) 7 = P 7 := pu_n (by omega)
    have e10 : pu P (103 + 6 * k) (P (103 + 6 * k) + P (102 + 6 * k)) 10 = P 10 := pu_n (by omega)
    generalize pu P (103 + 6 * k) (P (103 + 6 * k) + P (102 + 6 * k)) = P1 at h1 e7 e10 ⊢
    dsimp only
    obtain ⟨q1, q2⟩ := h1.2.2.2.2.2.2.2.2 k (by omega)
    obtain ⟨z1, z2, z3, z4⟩ := q1
    have h7 := h1.1.1
    have k7 : keyI 7 := by unfold keyI; omega
    split
    · have hi := pOkL_inc h1 (a := P1 (101 + 6 * k)) (by omega) (by omega)
      have hg := sInc_ok h1.1 h1.2.1 h1.2.2.2.1 (a := P1 (101 + 6 * k)) (by omega) (by omega)
      have hs := sSet_ok (u := 1000000000000000) hi.1 hi.2.2.1 hi.2.2.2.1 (by have := hi.2.2.2.2.1; omega) (by omega)
      rw [hs.1 7 k7, hg.1 7 k7, e7]
    · split
      · rename_i hp
        have he : (P1 (100 + 6 * k)).toNat < 10 := by omega
        have hi := pOkL_pay h1 he (a := P1 (101 + 6 * k)) (by omega) hp
        have hg := sPay_ok h1.2.2.2.1 he (a := P1 (101 + 6 * k)) (by omega) hp
        have hs := sSet_ok (u := 1000000000000000) hi.1 hi.2.2.1 hi.2.2.2.1 (by have := hi.2.2.2.2.1; omega) (by omega)
        rw [hs.1 7 k7, hg.1 7 k7, e7]
      · rw [pu_n (by omega), pu_n (by omega), e7]
  · rfl
theorem itms7 {P : Nat → Int} {v : Int} (H : pOkL P v 0) (hv : v + 8 ≤ 800000000) : ∀ k : Nat, (k : Int) ≤ P 10 → sIt sItmT P k 7 = P 7
  | 0, _ => rfl
  | k + 1, hk => by
    obtain ⟨a, b, c⟩ := pOkL_itms H hv k (by omega)
    have t := H.2.2.2.2.2.2.2.1
    rw [sIt_succ]
    exact (itm7 a (by rw [c]; omega) (by omega)).trans (itms7 H hv k (by omega))
theorem day7 {P : Nat → Int} {v : Int} (H : pOk P v) (hv : v + 9 ≤ 800000000) : sDay P 7 = P 7 := by
  have t := H.2.2.2.2.2.2.2.1
  have h1 := pOkL_day H
  have e10 : pu P 1 (P 1 + 1) 10 = P 10 := pu_n (by omega)
  have e7 : pu P 1 (P 1 + 1) 7 = P 7 := pu_n (by omega)
  obtain ⟨a, b, c⟩ := pOkL_itms h1 (by omega) (P 10).toNat (by rw [e10]; omega)
  have h7 := itms7 h1 (by omega) (P 10).toNat (by rw [e10]; omega)
  rw [e7] at h7
  have a8 := pOkL_all a (by rw [c, e10]; omega)
  have k7 : keyI 7 := by unfold keyI; omega
  unfold sDay
  split
  · have hr := pOkL_roll a8
    have hg := sRoll_ok a8.2.2.2.1 (sIt sItmT (pu P 1 (P 1 + 1)) (P 10).toNat 7).toNat (by have := a8.1.1; omega)
    have hs := sSet_ok (u := 1000000000000000) hr.1 hr.2.2.1 hr.2.2.2.1 (by have := hr.2.2.2.2.1; omega) (by omega)
    rw [hs.1 7 k7]; exact (hg.1 7 k7).trans h7
  · exact h7
theorem days7 {P : Nat → Int} {v : Int} (H : pOk P v) : ∀ n : Nat, v + 9 * n ≤ 800000000 → sDays P n 7 = P 7
  | 0, _ => rfl
  | n + 1, hn => (day7 (pOk_days H n (by omega)).1 (by omega)).trans (days7 H n (by omega))
theorem spay4 {P : Nat → Int} {v a : Int} {e : Nat} (H : pOk P v) (hv : v ≤ 800000000) (he : e < 10) (a0 : 0 ≤ a) (ha : a ≤ P (11 + 4 * e) + P 0) : sSet (sPay P e a) 4 = P 4 := by
  have k4 : keyI 4 := by unfold keyI; omega
  have hi := pOkL_pay H he a0 ha
  have hg := sPay_ok H.2.2.2.1 he a0 ha
  have hs := sSet_ok (u := 1000000000000000) hi.1 hi.2.2.1 hi.2.2.2.1 (by have := hi.2.2.2.2.1; omega) (by omega)
  rw [hs.1 4 k4, hg.1 4 k4]
