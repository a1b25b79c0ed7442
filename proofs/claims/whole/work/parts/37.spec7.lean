/-- the numbers that money never changes -/
def keyI (j : Nat) : Prop := j = 1 ∨ j = 4 ∨ (7 ≤ j ∧ j < 11) ∨ (11 ≤ j ∧ j < 51 ∧ (j % 4 = 0 ∨ j % 4 = 1)) ∨ (51 ≤ j ∧ j < 69) ∨ (69 ≤ j ∧ j < 99 ∧ j % 5 ≠ 3) ∨ 99 ≤ j
def agI (P Q : Nat → Int) : Prop := ∀ j, keyI j → Q j = P j
theorem agI.rf {P : Nat → Int} : agI P P := fun _ _ => rfl
theorem agI.tr {P Q S : Nat → Int} (h : agI P Q) (h2 : agI Q S) : agI P S := fun j hj => (h2 j hj).trans (h j hj)
theorem agI_pu {P Q : Nat → Int} {k : Nat} {v : Int} (h : agI P Q) (hk : ¬ keyI k) : agI P (pu Q k v) := fun j hj => by
  rw [pu_n (by intro e; subst e; exact hk hj)]; exact h j hj
/-- money is in order: nothing is negative, and what was received is there or spent -/
def mny (P : Nat → Int) : Prop := 0 ≤ P 0 ∧ 0 ≤ P 3 ∧ (∀ e, e < 10 → 0 ≤ P (11 + 4 * e)) ∧ P 0 + bS P + P 3 ≤ P 2
def capOk (P : Nat → Int) : Prop := (0 ≤ P 7 ∧ P 7 ≤ 10) ∧ ∀ e, e < 10 → (-1 ≤ P (12 + 4 * e) ∧ P (12 + 4 * e) ≤ 9000000) ∧ (0 ≤ P (13 + 4 * e) ∧ P (13 + 4 * e) ≤ 2)
theorem capOk_of {P Q : Nat → Int} (H : capOk P) (a : agI P Q) : capOk Q := by
  refine ⟨by rw [a 7 (by unfold keyI; omega)]; exact H.1, fun e he => ?_⟩
  rw [a (12 + 4 * e) (by unfold keyI; omega), a (13 + 4 * e) (by unfold keyI; omega)]
  exact H.2 e he
theorem rlOk_ag {P Q : Nat → Int} (H : rlOk P) (a : agI P Q) : rlOk Q := by
  have h8 := H.1
  refine ⟨by rw [a 8 (by unfold keyI; omega)]; exact H.1, fun r hr => ?_⟩
  rw [a 8 (by unfold keyI; omega)] at hr
  rw [a (51 + 3 * r) (by unfold keyI; omega), a (52 + 3 * r) (by unfold keyI; omega), a (53 + 3 * r) (by unfold keyI; omega), a 7 (by unfold keyI; omega)]
  exact H.2 r hr
theorem lkOk_ag {P Q : Nat → Int} (H : lkOk P) (a : agI P Q) : lkOk Q :=
  lkOk_of H (a 7 (by unfold keyI; omega)) (a 9 (by unfold keyI; omega)) (fun k hk => ⟨a _ (by unfold keyI; omega), a _ (by unfold keyI; omega), a _ (by unfold keyI; omega), a _ (by unfold keyI; omega)⟩)
theorem wfS_of {P : Nat → Int} {u : Int} (c : capOk P) (h : ∀ e, e < 10 → 0 ≤ P (11 + 4 * e)) (hb : bS P ≤ u) : wfS P u := ⟨c.1, fun e he => ⟨h e he, c.2 e he⟩, hb⟩
theorem mny_wfS {P : Nat → Int} {u : Int} (c : capOk P) (m : mny P) (hu : P 2 ≤ u) : wfS P u := wfS_of c m.2.2.1 (by have := m.1; have := m.2.1; have := m.2.2.2; omega)
-- putting
theorem sPut_ag {P : Nat → Int} {e : Nat} {a : Int} (he : e < 10) : agI P (sPut P e a) := agI_pu agI.rf (by unfold keyI; omega)
theorem sPut_bS {P : Nat → Int} {e : Nat} {a : Int} (he : e < 10) : bS (sPut P e a) = bS P + sIs P e a := by
  unfold sPut; rw [bS_up he]; omega
theorem sPut_nn {P : Nat → Int} {e : Nat} {a : Int} (ha : 0 ≤ a) (h : ∀ e, e < 10 → 0 ≤ P (11 + 4 * e)) : ∀ j, j < 10 → 0 ≤ sPut P e a (11 + 4 * j) := fun j hj => by
  have := sIs_le (P := P) (e := e) ha
  unfold sPut
  by_cases hz : j = e
  · subst hz; rw [pu_s]; have := h j hj; omega
  · rw [pu_n (by omega)]; exact h j hj
/-- only balances differ -/
def onlyB (P Q : Nat → Int) : Prop := ∀ j, (j < 11 ∨ 51 ≤ j ∨ j % 4 ≠ 3) → Q j = P j
theorem onlyB.ag {P Q : Nat → Int} (h : onlyB P Q) : agI P Q := fun j hj => h j (by unfold keyI at hj; omega)
theorem onlyB.tr {P Q S : Nat → Int} (h : onlyB P Q) (h2 : onlyB Q S) : onlyB P S := fun j hj => (h2 j hj).trans (h j hj)
theorem sPut_ob {P : Nat → Int} {e : Nat} {a : Int} (he : e < 10) : onlyB P (sPut P e a) := fun j hj => sPut_n (by omega)
theorem shT_bS {P : Nat → Int} {r0 m : Nat} {x w c u : Int} (H : shOk P r0 m) (W : wfE P u) (x0 : 0 ≤ x) (x1 : x ≤ 1000000) (hw : 1 ≤ w) (c0 : 0 ≤ c) : ∀ i, i ≤ m →
    bS (sIt (sShT P x w r0) (c, 0, P) i).2.2 = bS P + (sIt (sShT P x w r0) (c, 0, P) i).2.1 ∧ onlyB P (sIt (sShT P x w r0) (c, 0, P) i).2.2
  | 0, _ => ⟨by show bS P = bS P + 0; omega, fun _ _ => rfl⟩
  | i + 1, hi => by
    obtain ⟨h1, h2⟩ := shT_bS H W x0 x1 hw c0 i (by omega)
    have h3 := H.2.2 i (by omega)
    have h7 := W.1
    rw [sIt_succ]
    generalize sIt (sShT P x w r0) (c, 0, P) i = s at h1 h2 ⊢
    obtain ⟨rs, tk, Q⟩ := s
    simp only [sShT] at h1 h2 ⊢
    have he : (P (52 + 3 * (r0 + i))).toNat < 10 := by omega
    exact ⟨by rw [sPut_bS he]; omega, h2.tr (sPut_ob he)⟩
theorem sShare_bS {P : Nat → Int} {r0 m : Nat} {x u : Int} (H : shOk P r0 m) (W : wfE P u) (x0 : 0 ≤ x) (x1 : x ≤ 1000000) :
    bS (sShare P r0 m x).2 = bS P + (sShare P r0 m x).1 ∧ onlyB P (sShare P r0 m x).2 := by
  have hw := sWt_in H m (Nat.le_refl m)
  have h1 := H.2.1
  have hx := parts_x H x0 x1
  exact shT_bS (c := x - sSum (fun k => sPt P x (sWt P r0 m) (r0 + k)) m) H W x0 x1 (by omega : 1 ≤ sWt P r0 m) (by omega) m (Nat.le_refl m)
theorem recT_inv {P : Nat → Int} {a u : Int} (W : wfE P u) (R : rlOk P) (a0 : 0 ≤ a) (a1 : a ≤ 1000000) : ∀ i,
    (0 ≤ (sIt (sRecT a) (0, a, P) i).2.1 ∧ (sIt (sRecT a) (0, a, P) i).2.1 ≤ a) ∧ bS (sIt (sRecT a) (0, a, P) i).2.2 + (sIt (sRecT a) (0, a, P) i).2.1 = bS P + a ∧ onlyB P (sIt (sRecT a) (0, a, P) i).2.2 ∧ wfE (sIt (sRecT a) (0, a, P) i).2.2 (u + i * 6000000000)
  | 0 => ⟨⟨a0, Int.le_refl a⟩, rfl, fun _ _ => rfl, wfE_mono W (by omega)⟩
  | i + 1 => by
    obtain ⟨h1, h2, h3, h4⟩ := recT_inv W R a0 a1 i
    rw [sIt_succ]
    generalize sIt (sRecT a) (0, a, P) i = s at h1 h2 h3 h4 ⊢
    obtain ⟨r, x, Q⟩ := s
    simp only [sRecT] at h1 h2 h3 h4 ⊢
    have RQ : rlOk Q := rlOk_ag R h3.ag
    by_cases hr : (r : Int) < Q 8
    · rw [if_pos hr]
      by_cases hk : Q (51 + 3 * r) = 4
      · rw [if_pos hk]
        dsimp only
        have so := shOk_of RQ hr hk
        have si := sShare_in so.1 h4 h1.1 (by omega)
        have sb := sShare_bS so.1 h4 h1.1 (by omega)
        exact ⟨by omega, by omega, h3.tr sb.2, wfE_mono si.2.1 (by omega)⟩
      · rw [if_neg hk]
        dsimp only
        have q := RQ.2 r hr
        have h7 := h4.1
        have he : (Q (52 + 3 * r)).toNat < 10 := by omega
        have wn := want_in (P := Q) (r := r) (a := a) (x := x) ⟨by omega, by omega⟩ ⟨a0, a1⟩ ⟨by omega, by omega⟩
        have hl := sIs_le (P := Q) (e := (Q (52 + 3 * r)).toNat) (a := min x (sWant Q r a x)) (by omega)
        exact ⟨by omega, by rw [sPut_bS he]; omega, h3.tr (sPut_ob he), wfE_mono (wfE_put (d := 1000000) h4 (by omega) (by omega) he) (by omega)⟩
    · rw [if_neg hr]
      exact ⟨h1, h2, h3, wfE_mono h4 (by omega)⟩
/-- an income keeps money in order -/
theorem sInc_ok {P : Nat → Int} {a : Int} (c : capOk P) (R : rlOk P) (m : mny P) (a0 : 0 ≤ a) (a1 : a ≤ 1000000) : agI P (sInc P a).2 ∧ mny (sInc P a).2 ∧ (sInc P a).2 2 = P 2 + a ∧ 0 ≤ (sInc P a).1 ∧ (sInc P a).1 ≤ a := by
  have ag0 : agI P (pu P 2 (P 2 + a)) := agI_pu agI.rf (by unfold keyI; omega)
  have W : wfE (pu P 2 (P 2 + a)) (P 2) := (wfS_of (capOk_of c ag0) (fun e he => by rw [pu_n (by omega)]; exact m.2.2.1 e he) (by rw [bS_un (by omega)]; have := m.1; have := m.2.1; have := m.2.2.2; omega)).E
  obtain ⟨h1, h2, h3, h4⟩ := recT_inv W (rlOk_ag R ag0) a0 a1 6
  have hb : bS (pu P 2 (P 2 + a)) = bS P := bS_un (by omega)
  unfold sInc
  simp only []
  generalize sIt (sRecT a) (0, a, pu P 2 (P 2 + a)) 6 = s at h1 h2 h3 h4 ⊢
  obtain ⟨r, x, Q⟩ := s
  simp only [] at h1 h2 h3 h4 ⊢
  have q0 : Q 0 = P 0 := (h3 0 (by omega)).trans (pu_n (by omega))
  have q3 : Q 3 = P 3 := (h3 3 (by omega)).trans (pu_n (by omega))
  have q2 : Q 2 = P 2 + a := (h3 2 (by omega)).trans (pu_s _ _ _)
  obtain ⟨m0, m3, mb, mc⟩ := m
  refine ⟨agI_pu (ag0.tr h3.ag) (by unfold keyI; omega), ⟨by rw [pu_s]; omega, by rw [pu_n (by omega)]; omega, fun e he => by rw [pu_n (by omega)]; exact (h4.2 e he).1.1, ?_⟩, by rw [pu_n (by omega)]; exact q2, h1.1, h1.2⟩
  rw [pu_s, pu_n (by omega), pu_n (by omega), bS_un (by omega)]
  omega
/-- spending keeps money in order -/
theorem sPay_ok {P : Nat → Int} {e : Nat} {a : Int} (m : mny P) (he : e < 10) (a0 : 0 ≤ a) (ha : a ≤ P (11 + 4 * e) + P 0) : agI P (sPay P e a) ∧ mny (sPay P e a) ∧ (sPay P e a) 2 = P 2 := by
  obtain ⟨m0, m3, mb, mc⟩ := m
  have me := mb e he
  have key : sPay P e a = pu (pu (pu (pu P (11 + 4 * e) (P (11 + 4 * e) - min (P (11 + 4 * e)) a)) (14 + 4 * e) (P (14 + 4 * e) + min (P (11 + 4 * e)) a)) 0 (P 0 - (a - min (P (11 + 4 * e)) a))) 3 (P 3 + a) := by
    simp only [sPay, sDrain]
    rw [pu_n (by omega), pu_n (by omega), pu_n (by omega), pu_n (by omega)]
  rw [key]
  refine ⟨agI_pu (agI_pu (agI_pu (agI_pu agI.rf (by unfold keyI; omega)) (by unfold keyI; omega)) (by unfold keyI; omega)) (by unfold keyI; omega), ⟨?_, ?_, fun j hj => ?_, ?_⟩, ?_⟩
  · rw [pu_n (by omega), pu_s]; omega
  · rw [pu_s]; omega
  · rw [pu_n (by omega), pu_n (by omega), pu_n (by omega)]
    by_cases hz : j = e
    · subst hz; rw [pu_s]; omega
    · rw [pu_n (by omega)]; exact mb j hj
  · rw [bS_un (by omega), bS_un (by omega), bS_un (by omega), bS_up he, pu_n (by omega), pu_s, pu_s, pu_n (by omega), pu_n (by omega), pu_n (by omega), pu_n (by omega)]
    omega
  · rw [pu_n (by omega), pu_n (by omega), pu_n (by omega), pu_n (by omega)]
theorem sLnk_ag {P : Nat → Int} {k : Nat} (c : capOk P) (L : lkOk P) (hk : (k : Int) < P 9) : agI P (sLnk P k) ∧ (sLnk P k) 0 = P 0 ∧ (sLnk P k) 2 = P 2 ∧ (sLnk P k) 3 = P 3 := by
  have l := L.2 k hk
  have h7 := c.1
  have h9 := L.1
  exact ⟨fun j hj => sLnk_at (by unfold keyI at hj; omega), sLnk_at (by omega), sLnk_at (by omega), sLnk_at (by omega)⟩
theorem lkT_inv {P : Nat → Int} {u : Int} (c : capOk P) (L : lkOk P) (W : wfS P u) (hu : u ≤ 1000000000000000) (m : Nat) : ∀ i : Nat, (i : Int) ≤ P 9 →
    agI P (sIt sLkT (m, false, P) i).2.2 ∧ wfS (sIt sLkT (m, false, P) i).2.2 u ∧ bS (sIt sLkT (m, false, P) i).2.2 = bS P ∧ (∀ j, j = 0 ∨ j = 2 ∨ j = 3 → (sIt sLkT (m, false, P) i).2.2 j = P j)
  | 0, _ => ⟨agI.rf, W, rfl, fun _ _ => rfl⟩
  | i + 1, hi => by
    obtain ⟨h1, h2, h3, h4⟩ := lkT_inv c L W hu m i (by omega)
    rw [sIt_succ]
    generalize sIt sLkT (m, false, P) i = s at h1 h2 h3 h4 ⊢
    obtain ⟨mk, an, Q⟩ := s
    simp only [sLkT] at h1 h2 h3 h4 ⊢
    split
    · rename_i hc
      have hq9 : (i : Int) < Q 9 := by rw [h1 9 (by unfold keyI; omega)]; omega
      have hi2 := sLnk_inv h2 (lkOk_ag L h1) hu hq9 hc.2.1
      have ha := sLnk_ag (capOk_of c h1) (lkOk_ag L h1) hq9
      refine ⟨h1.tr ha.1, hi2.1, hi2.2.2.2.trans h3, fun j hj => ?_⟩
      rcases hj with h | h | h
      · subst h; exact ha.2.1.trans (h4 0 (by omega))
      · subst h; exact ha.2.2.1.trans (h4 2 (by omega))
      · subst h; exact ha.2.2.2.trans (h4 3 (by omega))
    · exact ⟨h1, h2, h3, h4⟩
theorem setT_inv {P : Nat → Int} {u : Int} (c : capOk P) (L : lkOk P) (W : wfS P u) (hu : u ≤ 1000000000000000) : ∀ i,
    agI P (sIt sSetT (0, false, P) i).2.2 ∧ wfS (sIt sSetT (0, false, P) i).2.2 u ∧ bS (sIt sSetT (0, false, P) i).2.2 = bS P ∧ (∀ j, j = 0 ∨ j = 2 ∨ j = 3 → (sIt sSetT (0, false, P) i).2.2 j = P j)
  | 0 => ⟨agI.rf, W, rfl, fun _ _ => rfl⟩
  | i + 1 => by
    obtain ⟨h1, h2, h3, h4⟩ := setT_inv c L W hu i
    rw [sIt_succ]
    generalize sIt sSetT (0, false, P) i = s at h1 h2 h3 h4 ⊢
    obtain ⟨mk, st, Q⟩ := s
    simp only [sSetT] at h1 h2 h3 h4 ⊢
    split
    · exact ⟨h1, h2, h3, h4⟩
    · have h9 := (lkOk_ag L h1).1
      have r := lkT_inv (capOk_of c h1) (lkOk_ag L h1) h2 hu mk (Q 9).toNat (by omega)
      exact ⟨h1.tr r.1, r.2.1, r.2.2.1.trans h3, fun j hj => (r.2.2.2 j hj).trans (h4 j hj)⟩
/-- settling keeps money in order -/
theorem sSet_ok {P : Nat → Int} {u : Int} (c : capOk P) (L : lkOk P) (m : mny P) (h2 : P 2 ≤ u) (hu : u ≤ 1000000000000000) : agI P (sSet P) ∧ mny (sSet P) ∧ sSet P 2 = P 2 := by
  obtain ⟨a, w, b, q⟩ := setT_inv c L (mny_wfS c m h2) hu 7
  obtain ⟨m0, m3, mb, mc⟩ := m
  refine ⟨a, ⟨?_, ?_, fun e he => (w.2.1 e he).1, ?_⟩, q 2 (by omega)⟩
  · show 0 ≤ sSet P 0; rw [show sSet P 0 = P 0 from q 0 (by omega)]; exact m0
  · show 0 ≤ sSet P 3; rw [show sSet P 3 = P 3 from q 3 (by omega)]; exact m3
  · show sSet P 0 + bS (sSet P) + sSet P 3 ≤ sSet P 2
    rw [show sSet P 0 = P 0 from q 0 (by omega), show sSet P 3 = P 3 from q 3 (by omega), show sSet P 2 = P 2 from q 2 (by omega), show bS (sSet P) = bS P from b]
    exact mc
theorem rolT_ok {P : Nat → Int} {e : Nat} (m : mny P) (he : e < 10) : agI P (sRolT e P) ∧ mny (sRolT e P) ∧ sRolT e P 2 = P 2 := by
  obtain ⟨m0, m3, mb, mc⟩ := m
  have hr := sRel_in (mb e he)
  have key : sRolT e P = pu (pu (pu P (11 + 4 * e) (P (11 + 4 * e) - sRel P e)) 0 (P 0 + sRel P e)) 6 (P 6 + sRel P e) := by
    simp only [sRolT]
    rw [pu_n (by omega), pu_n (by omega)]
  rw [key]
  refine ⟨agI_pu (agI_pu (agI_pu agI.rf (by unfold keyI; omega)) (by unfold keyI; omega)) (by unfold keyI; omega), ⟨?_, ?_, fun j hj => ?_, ?_⟩, ?_⟩
  · rw [pu_n (by omega), pu_s]; omega
  · rw [pu_n (by omega), pu_n (by omega), pu_n (by omega)]; exact m3
  · rw [pu_n (by omega), pu_n (by omega)]
    by_cases hz : j = e
    · subst hz; rw [pu_s]; omega
    · rw [pu_n (by omega)]; exact mb j hj
  · rw [bS_un (by omega), bS_un (by omega), bS_up he, pu_n (by omega), pu_s, pu_n (by omega), pu_n (by omega), pu_n (by omega), pu_n (by omega), pu_n (by omega), pu_n (by omega)]
    omega
  · rw [pu_n (by omega), pu_n (by omega), pu_n (by omega)]
theorem sRoll_ok {P : Nat → Int} (m : mny P) : ∀ i, i ≤ 10 → agI P (sIt sRolT P i) ∧ mny (sIt sRolT P i) ∧ sIt sRolT P i 2 = P 2
  | 0, _ => ⟨agI.rf, m, rfl⟩
  | i + 1, hi => by
    obtain ⟨a, b, q⟩ := sRoll_ok m i (by omega)
    obtain ⟨a2, b2, q2⟩ := rolT_ok (e := i) b (by omega)
    rw [sIt_succ]
    exact ⟨a.tr a2, b2, q2.trans q⟩
