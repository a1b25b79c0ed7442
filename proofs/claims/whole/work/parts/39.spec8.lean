/-- an item's turn on a day -/
def sItmT (i : Nat) (P : Nat → Int) : Nat → Int :=
  if P (103 + 6 * i) = P 1 then
    let P1 := pu P (103 + 6 * i) (P (103 + 6 * i) + P (102 + 6 * i))
    if P1 (99 + 6 * i) = 0 then sSet (sInc P1 (P1 (101 + 6 * i))).2
    else
      let e := (P1 (100 + 6 * i)).toNat
      if P1 (101 + 6 * i) ≤ P1 (11 + 4 * e) + P1 0 then sSet (sPay P1 e (P1 (101 + 6 * i)))
      else
        let P2 := pu P1 (104 + 6 * i) (P1 (104 + 6 * i) + 1)
        pu P2 4 (P2 4 + 1)
  else P
def sDay (P : Nat → Int) : Nat → Int :=
  let P2 := sIt sItmT (pu P 1 (P 1 + 1)) (P 10).toNat
  if (P2 1).tmod 30 = 0 then sSet (sRoll P2) else P2
def sDays (P : Nat → Int) (n : Nat) : Nat → Int := sIt (fun _ => sDay) P n
def itk (P : Nat → Int) (i : Nat) : Prop := (P (99 + 6 * i) = 0 ∨ (P (99 + 6 * i) = 1 ∧ 0 ≤ P (100 + 6 * i) ∧ P (100 + 6 * i) < P 7)) ∧ (1 ≤ P (101 + 6 * i) ∧ P (101 + 6 * i) ≤ 1000000) ∧ (1 ≤ P (102 + 6 * i) ∧ P (102 + 6 * i) ≤ 60) ∧ 0 ≤ P (104 + 6 * i) ∧ P (104 + 6 * i) ≤ P 4
/-- a plan in order, v its budget; of the items ahead of lo it is told that they are due later than today -/
def pOkL (P : Nat → Int) (v : Int) (lo : Nat) : Prop := capOk P ∧ rlOk P ∧ lkOk P ∧ mny P ∧ P 2 ≤ 1000000 * v ∧ (0 ≤ P 1 ∧ P 1 ≤ v) ∧ (0 ≤ P 4 ∧ P 4 ≤ v) ∧ (0 ≤ P 10 ∧ P 10 ≤ 8) ∧ ∀ i : Nat, (i : Int) < P 10 → itk P i ∧ (P 1 ≤ P (103 + 6 * i) ∧ (i < lo → P 1 < P (103 + 6 * i))) ∧ P (103 + 6 * i) ≤ P 1 + 60
abbrev pOk (P : Nat → Int) (v : Int) : Prop := pOkL P v 8
theorem itk_ag {P Q : Nat → Int} {i : Nat} (h : itk P i) (a : agI P Q) : itk Q i := by
  unfold itk at *
  rw [a (99 + 6 * i) (by unfold keyI; omega), a (100 + 6 * i) (by unfold keyI; omega), a (101 + 6 * i) (by unfold keyI; omega), a (102 + 6 * i) (by unfold keyI; omega), a (104 + 6 * i) (by unfold keyI; omega), a 7 (by unfold keyI; omega), a 4 (by unfold keyI; omega)]
  exact h
theorem pOkL_ag {P Q : Nat → Int} {v v' : Int} {lo : Nat} (H : pOkL P v lo) (a : agI P Q) (m : mny Q) (h2 : Q 2 ≤ 1000000 * v') (hv : v ≤ v') : pOkL Q v' lo := by
  obtain ⟨c, r, l, _, _, d, s, t, i⟩ := H
  have a1 := a 1 (by unfold keyI; omega)
  have a4 := a 4 (by unfold keyI; omega)
  have a10 := a 10 (by unfold keyI; omega)
  refine ⟨capOk_of c a, rlOk_ag r a, lkOk_ag l a, m, h2, by rw [a1]; omega, by rw [a4]; omega, by rw [a10]; exact t, fun k hk => ?_⟩
  rw [a10] at hk
  obtain ⟨q1, q2, q3⟩ := i k hk
  rw [a1, a (103 + 6 * k) (by unfold keyI; omega)]
  exact ⟨itk_ag q1 a, q2, q3⟩
theorem pOkL_wfS {P : Nat → Int} {v : Int} {lo : Nat} (H : pOkL P v lo) (hv : v ≤ 800000000) : wfS P 800000000000000 := mny_wfS H.1 H.2.2.2.1 (by have := H.2.2.2.2.1; omega)
theorem wfS_mono {P : Nat → Int} {u w : Int} (H : wfS P u) (h : u ≤ w) : wfS P w := ⟨H.1, H.2.1, Int.le_trans H.2.2 h⟩
theorem pOkL_set {P : Nat → Int} {v : Int} {lo : Nat} (H : pOkL P v lo) (hv : v ≤ 800000000) : pOkL (sSet P) v lo := by
  obtain ⟨a, m, q⟩ := sSet_ok (u := 1000000000000000) H.1 H.2.2.1 H.2.2.2.1 (by have := H.2.2.2.2.1; omega) (by omega)
  exact pOkL_ag H a m (by rw [q]; exact H.2.2.2.2.1) (by omega)
theorem pOkL_inc {P : Nat → Int} {v a : Int} {lo : Nat} (H : pOkL P v lo) (a0 : 0 ≤ a) (a1 : a ≤ 1000000) : pOkL (sInc P a).2 (v + 1) lo := by
  obtain ⟨g, m, q, _⟩ := sInc_ok H.1 H.2.1 H.2.2.2.1 a0 a1
  exact pOkL_ag H g m (by rw [q]; have := H.2.2.2.2.1; omega) (by omega)
theorem pOkL_pay {P : Nat → Int} {v a : Int} {e lo : Nat} (H : pOkL P v lo) (he : e < 10) (a0 : 0 ≤ a) (ha : a ≤ P (11 + 4 * e) + P 0) : pOkL (sPay P e a) v lo := by
  obtain ⟨g, m, q⟩ := sPay_ok H.2.2.2.1 he a0 ha
  exact pOkL_ag H g m (by rw [q]; exact H.2.2.2.2.1) (by omega)
theorem pOkL_roll {P : Nat → Int} {v : Int} {lo : Nat} (H : pOkL P v lo) : pOkL (sRoll P) v lo := by
  have h7 := H.1.1
  obtain ⟨g, m, q⟩ := sRoll_ok H.2.2.2.1 (P 7).toNat (by omega)
  exact pOkL_ag H g m (by show sIt sRolT P (P 7).toNat 2 ≤ _; rw [q]; exact H.2.2.2.2.1) (by omega)
theorem pOkL_mono {P : Nat → Int} {v w : Int} {lo : Nat} (H : pOkL P v lo) (h : v ≤ w) : pOkL P w lo := pOkL_ag H agI.rf H.2.2.2.1 (by have := H.2.2.2.2.1; omega) h
theorem mny_pu {P : Nat → Int} {k : Nat} {x : Int} (m : mny P) (hk : k ≠ 0 ∧ k ≠ 2 ∧ k ≠ 3 ∧ ∀ e, e < 10 → 11 + 4 * e ≠ k) : mny (pu P k x) := by
  obtain ⟨a, b, c, d⟩ := m
  refine ⟨by rw [pu_n (by omega)]; exact a, by rw [pu_n (by omega)]; exact b, fun e he => by rw [pu_n (hk.2.2.2 e he)]; exact c e he, ?_⟩
  rw [pu_n (by omega), pu_n (by omega), pu_n (by omega), bS_un hk.2.2.2]
  exact d
/-- the day begins -/
theorem pOkL_day {P : Nat → Int} {v : Int} (H : pOkL P v 8) : pOkL (pu P 1 (P 1 + 1)) (v + 1) 0 := by
  obtain ⟨c, r, l, m, b, d, s, t, i⟩ := H
  refine ⟨⟨by rw [pu_n (by omega)]; exact c.1, fun e he => by rw [pu_n (by omega), pu_n (by omega)]; exact c.2 e he⟩, ?_, ?_, mny_pu m ⟨by omega, by omega, by omega, fun e he => by omega⟩, by rw [pu_n (by omega)]; omega, by rw [pu_s]; omega, by rw [pu_n (by omega)]; omega, by rw [pu_n (by omega)]; exact t, fun k hk => ?_⟩
  · exact rlOk_of r (pu_n (by omega)) (pu_n (by omega)) (fun j hj => pu_n (by omega))
  · exact lkOk_of l (pu_n (by omega)) (pu_n (by omega)) (fun j hj => ⟨pu_n (by omega), pu_n (by omega), pu_n (by omega), pu_n (by omega)⟩)
  · rw [pu_n (by omega)] at hk
    obtain ⟨q1, ⟨q2, q3⟩, q4⟩ := i k hk
    have q5 := q3 (by omega)
    refine ⟨?_, ?_, ?_⟩
    · unfold itk at *
      rw [pu_n (by omega), pu_n (by omega), pu_n (by omega), pu_n (by omega), pu_n (by omega), pu_n (by omega), pu_n (by omega)]
      exact q1
    · rw [pu_s, pu_n (by omega)]; exact ⟨by omega, fun h => absurd h (by omega)⟩
    · rw [pu_s, pu_n (by omega)]; omega
/-- an item that is due today is due next one period later -/
theorem pOkL_due {P : Nat → Int} {v : Int} {k : Nat} (H : pOkL P v k) (hk : (k : Int) < P 10) (hd : P (103 + 6 * k) = P 1) : pOkL (pu P (103 + 6 * k) (P (103 + 6 * k) + P (102 + 6 * k))) v (k + 1) := by
  obtain ⟨c, r, l, m, b, d, s, t, i⟩ := H
  have hk8 : k < 8 := by omega
  refine ⟨⟨by rw [pu_n (by omega)]; exact c.1, fun e he => by rw [pu_n (by omega), pu_n (by omega)]; exact c.2 e he⟩, ?_, ?_, mny_pu m ⟨by omega, by omega, by omega, fun e he => by omega⟩, by rw [pu_n (by omega)]; omega, by rw [pu_n (by omega)]; omega, by rw [pu_n (by omega)]; omega, by rw [pu_n (by omega)]; exact t, fun j hj => ?_⟩
  · refine ⟨by rw [pu_n (by omega)]; exact r.1, fun q hq => ?_⟩
    rw [pu_n (by omega)] at hq
    have h8 := r.1
    rw [pu_n (by omega), pu_n (by omega), pu_n (by omega), pu_n (by omega)]
    exact r.2 q hq
  · exact lkOk_of l (pu_n (by omega)) (pu_n (by omega)) (fun j hj => ⟨pu_n (by omega), pu_n (by omega), pu_n (by omega), pu_n (by omega)⟩)
  · rw [pu_n (by omega)] at hj
    obtain ⟨q1, ⟨q2, q3⟩, q4⟩ := i j hj
    refine ⟨?_, ?_⟩
    · unfold itk at *
      rw [pu_n (by omega), pu_n (by omega), pu_n (by omega), pu_n (by omega), pu_n (by omega), pu_n (by omega), pu_n (by omega)]
      exact q1
    · rw [pu_n (j := 1) (by omega)]
      by_cases hz : j = k
      · subst hz
        have h3 := q1.2.2.1
        rw [pu_s]; exact ⟨⟨by omega, fun _ => by omega⟩, by omega⟩
      · rw [pu_n (by omega)]
        exact ⟨⟨q2, fun h => q3 (by omega)⟩, q4⟩
theorem pOkL_miss {P : Nat → Int} {v : Int} {k lo : Nat} (H : pOkL P v lo) (hk : (k : Int) < P 10) : pOkL (pu (pu P (104 + 6 * k) (P (104 + 6 * k) + 1)) 4 (P 4 + 1)) (v + 1) lo := by
  obtain ⟨c, r, l, m, b, d, s, t, i⟩ := H
  have hk8 : k < 8 := by omega
  refine ⟨⟨by rw [pu_n (by omega), pu_n (by omega)]; exact c.1, fun e he => by rw [pu_n (by omega), pu_n (by omega), pu_n (by omega), pu_n (by omega)]; exact c.2 e he⟩, ?_, ?_, mny_pu (mny_pu m ⟨by omega, by omega, by omega, fun e he => by omega⟩) ⟨by omega, by omega, by omega, fun e he => by omega⟩, by rw [pu_n (by omega), pu_n (by omega)]; omega, by rw [pu_n (by omega), pu_n (by omega)]; omega, by rw [pu_s]; omega, by rw [pu_n (by omega), pu_n (by omega)]; exact t, fun j hj => ?_⟩
  · refine ⟨by rw [pu_n (by omega), pu_n (by omega)]; exact r.1, fun q hq => ?_⟩
    rw [pu_n (by omega), pu_n (by omega)] at hq
    have h8 := r.1
    rw [pu_n (by omega), pu_n (by omega), pu_n (by omega), pu_n (by omega), pu_n (by omega), pu_n (by omega), pu_n (by omega), pu_n (by omega)]
    exact r.2 q hq
  · exact lkOk_of l (by rw [pu_n (by omega), pu_n (by omega)]) (by rw [pu_n (by omega), pu_n (by omega)]) (fun j hj => ⟨by rw [pu_n (by omega), pu_n (by omega)], by rw [pu_n (by omega), pu_n (by omega)], by rw [pu_n (by omega), pu_n (by omega)], by rw [pu_n (by omega), pu_n (by omega)]⟩)
  · rw [pu_n (by omega), pu_n (by omega)] at hj
    obtain ⟨q1, q2, q3⟩ := i j hj
    have q4 := q1.2.2.2
    obtain ⟨z1, z2, z3, z4⟩ := q1
    refine ⟨⟨?_, ?_, ?_, ?_⟩, ?_⟩
    · rw [pu_n (by omega), pu_n (by omega), pu_n (by omega), pu_n (by omega), pu_n (by omega), pu_n (by omega)]; exact z1
    · rw [pu_n (by omega), pu_n (by omega)]; exact z2
    · rw [pu_n (by omega), pu_n (by omega)]; exact z3
    · rw [pu_s, pu_n (j := 104 + 6 * j) (k := 4) (by omega)]
      by_cases hz : j = k
      · subst hz; rw [pu_s]; omega
      · rw [pu_n (by omega)]; omega
    · rw [pu_n (j := 1) (by omega), pu_n (j := 1) (by omega), pu_n (j := 103 + 6 * j) (by omega), pu_n (j := 103 + 6 * j) (by omega)]; exact ⟨q2, q3⟩
theorem pOkL_all {P : Nat → Int} {v : Int} {lo : Nat} (H : pOkL P v lo) (h : P 10 ≤ lo) : pOkL P v 8 := by
  obtain ⟨c, r, l, m, b, d, s, t, i⟩ := H
  exact ⟨c, r, l, m, b, d, s, t, fun k hk => ⟨(i k hk).1, ⟨(i k hk).2.1.1, fun _ => (i k hk).2.1.2 (by omega)⟩, (i k hk).2.2⟩⟩
/-- an item's turn keeps the plan in order -/
theorem pOkL_itm {P : Nat → Int} {v : Int} {k : Nat} (H : pOkL P v k) (hk : (k : Int) < P 10) (hv : v + 1 ≤ 800000000) : pOkL (sItmT k P) (v + 1) (k + 1) ∧ sItmT k P 1 = P 1 ∧ sItmT k P 10 = P 10 := by
  unfold sItmT
  split
  · rename_i hd
    have h1 := pOkL_due H hk hd
    have e1 : pu P (103 + 6 * k) (P (103 + 6 * k) + P (102 + 6 * k)) 1 = P 1 := pu_n (by omega)
    have e10 : pu P (103 + 6 * k) (P (103 + 6 * k) + P (102 + 6 * k)) 10 = P 10 := pu_n (by omega)
    generalize pu P (103 + 6 * k) (P (103 + 6 * k) + P (102 + 6 * k)) = P1 at h1 e1 e10 ⊢
    dsimp only
    obtain ⟨q1, q2⟩ := h1.2.2.2.2.2.2.2.2 k (by omega)
    obtain ⟨z1, z2, z3, z4⟩ := q1
    have h7 := h1.1.1
    have k1 : keyI 1 := by unfold keyI; omega
    have k10 : keyI 10 := by unfold keyI; omega
    split
    · have hi := pOkL_inc h1 (a := P1 (101 + 6 * k)) (by omega) (by omega)
      have hg := sInc_ok h1.1 h1.2.1 h1.2.2.2.1 (a := P1 (101 + 6 * k)) (by omega) (by omega)
      have hs := sSet_ok (u := 1000000000000000) hi.1 hi.2.2.1 hi.2.2.2.1 (by have := hi.2.2.2.2.1; omega) (by omega)
      exact ⟨pOkL_set hi (by omega), by rw [hs.1 1 k1, hg.1 1 k1, e1], by rw [hs.1 10 k10, hg.1 10 k10, e10]⟩
    · split
      · rename_i hp
        have he : (P1 (100 + 6 * k)).toNat < 10 := by omega
        have hi := pOkL_pay h1 he (a := P1 (101 + 6 * k)) (by omega) hp
        have hg := sPay_ok h1.2.2.2.1 he (a := P1 (101 + 6 * k)) (by omega) hp
        have hs := sSet_ok (u := 1000000000000000) hi.1 hi.2.2.1 hi.2.2.2.1 (by have := hi.2.2.2.2.1; omega) (by omega)
        exact ⟨pOkL_mono (pOkL_set hi (by omega)) (by omega), by rw [hs.1 1 k1, hg.1 1 k1, e1], by rw [hs.1 10 k10, hg.1 10 k10, e10]⟩
      · have hm := pOkL_miss h1 (k := k) (by omega)
        rw [pu_n (j := 4) (k := 104 + 6 * k) (by omega)]
        exact ⟨hm, by rw [pu_n (by omega), pu_n (by omega)]; exact e1, by rw [pu_n (by omega), pu_n (by omega)]; exact e10⟩
  · rename_i hd
    refine ⟨?_, rfl, rfl⟩
    obtain ⟨c, r, l, m, b, d, s, t, i⟩ := pOkL_mono H (w := v + 1) (by omega)
    refine ⟨c, r, l, m, b, d, s, t, fun j hj => ?_⟩
    obtain ⟨q1, ⟨q2, q3⟩, q4⟩ := i j hj
    refine ⟨q1, ⟨q2, fun hjk => ?_⟩, q4⟩
    by_cases hz : j = k
    · subst hz; omega
    · exact q3 (by omega)
theorem pOkL_itms {P : Nat → Int} {v : Int} (H : pOkL P v 0) (hv : v + 8 ≤ 800000000) : ∀ k : Nat, (k : Int) ≤ P 10 → pOkL (sIt sItmT P k) (v + k) k ∧ sIt sItmT P k 1 = P 1 ∧ sIt sItmT P k 10 = P 10
  | 0, _ => ⟨pOkL_mono H (by omega), rfl, rfl⟩
  | k + 1, hk => by
    obtain ⟨a, b, c⟩ := pOkL_itms H hv k (by omega)
    have t := H.2.2.2.2.2.2.2.1
    have d := pOkL_itm a (by rw [c]; omega) (by omega)
    rw [sIt_succ]
    exact ⟨pOkL_mono d.1 (by omega), d.2.1.trans b, d.2.2.trans c⟩
theorem pOk_day {P : Nat → Int} {v : Int} (H : pOk P v) (hv : v + 9 ≤ 800000000) : pOk (sDay P) (v + 9) ∧ sDay P 10 = P 10 := by
  have t := H.2.2.2.2.2.2.2.1
  have h1 := pOkL_day H
  have e10 : pu P 1 (P 1 + 1) 10 = P 10 := pu_n (by omega)
  obtain ⟨a, b, c⟩ := pOkL_itms h1 (by omega) (P 10).toNat (by rw [e10]; omega)
  have a8 := pOkL_all a (by rw [c, e10]; omega)
  have k10 : keyI 10 := by unfold keyI; omega
  unfold sDay
  dsimp only
  split
  · have hr := pOkL_roll a8
    have hg := sRoll_ok a8.2.2.2.1 (sIt sItmT (pu P 1 (P 1 + 1)) (P 10).toNat 7).toNat (by have := a8.1.1; omega)
    have hs := sSet_ok (u := 1000000000000000) hr.1 hr.2.2.1 hr.2.2.2.1 (by have := hr.2.2.2.2.1; omega) (by omega)
    exact ⟨pOkL_mono (pOkL_set hr (by omega)) (by omega), by rw [hs.1 10 k10]; exact (hg.1 10 k10).trans (c.trans e10)⟩
  · exact ⟨pOkL_mono a8 (by omega), c.trans e10⟩
theorem pOk_days {P : Nat → Int} {v : Int} (H : pOk P v) : ∀ n : Nat, v + 9 * n ≤ 800000000 → pOk (sDays P n) (v + 9 * n) ∧ sDays P n 10 = P 10
  | 0, _ => ⟨pOkL_mono H (by omega), rfl⟩
  | n + 1, hn => by
    obtain ⟨a, b⟩ := pOk_days H n (by omega)
    have d := pOk_day a (by omega)
    exact ⟨pOkL_mono d.1 (by omega), d.2.trans b⟩
theorem tm_ok {x : Int} (h : 0 ≤ x) : rI (x.tmod 30) := by
  rw [Int.tmod_eq_emod_of_nonneg h]
  exact ⟨by omega, by omega⟩
