theorem bs_t : ∀ m, m < 64 → ∀ i, i < 6 → ∀ k, k < 6 → Nat.testBit (m ||| 2 ^ i) k = (Nat.testBit m k || decide (k = i)) := by decide +kernel
/-- how many links of six have passed on -/
def pcn (m : Nat) : Nat := (if Nat.testBit m 0 then 1 else 0) + (if Nat.testBit m 1 then 1 else 0) + (if Nat.testBit m 2 then 1 else 0) + (if Nat.testBit m 3 then 1 else 0) + (if Nat.testBit m 4 then 1 else 0) + (if Nat.testBit m 5 then 1 else 0)
theorem pcn_up : ∀ m, m < 64 → ∀ i, i < 6 → Nat.testBit m i = false → pcn (m ||| 2 ^ i) = pcn m + 1 := by decide +kernel
theorem pcn_in : ∀ m, m < 64 → pcn m ≤ 6 := by decide +kernel
theorem pu_comm {P : Nat → Int} {i j : Nat} {x y : Int} (h : i ≠ j) : pu (pu P i x) j y = pu (pu P j y) i x := by
  funext k
  simp only [pu]
  by_cases e1 : k = j
  · subst e1; rw [if_pos rfl, if_neg (by omega), if_pos rfl]
  · rw [if_neg e1]
    by_cases e2 : k = i
    · rw [if_pos e2, if_pos e2]
    · rw [if_neg e2, if_neg e2, if_neg e1]
theorem sIs_pu2 {P : Nat → Int} {e : Nat} {a y : Int} : sIs (pu P 2 y) e a = sIs P e a := by
  unfold sIs; rw [pu_n (by omega), pu_n (by omega)]
theorem sPut_pu2 {P : Nat → Int} {e : Nat} {a y : Int} : sPut (pu P 2 y) e a = pu (sPut P e a) 2 y := by
  unfold sPut; rw [sIs_pu2, pu_n (by omega), pu_comm (by omega)]
theorem shT_pu2 {P : Nat → Int} {x w y : Int} {r0 : Nat} (i : Nat) (t : Int × Int × (Nat → Int)) : sShT (pu P 2 y) x w r0 i (t.1, t.2.1, pu t.2.2 2 y) = ((sShT P x w r0 i t).1, (sShT P x w r0 i t).2.1, pu (sShT P x w r0 i t).2.2 2 y) := by
  have e1 : sPt (pu P 2 y) x w (r0 + i) = sPt P x w (r0 + i) := by unfold sPt; rw [pu_n (by omega)]
  have e2 : pu P 2 y (52 + 3 * (r0 + i)) = P (52 + 3 * (r0 + i)) := pu_n (by omega)
  simp only [sShT, e1, e2, sIs_pu2, sPut_pu2]
theorem sShI_pu2 {P : Nat → Int} {x w y cc : Int} {r0 : Nat} : ∀ i, sIt (sShT (pu P 2 y) x w r0) (cc, 0, pu P 2 y) i = ((sIt (sShT P x w r0) (cc, 0, P) i).1, (sIt (sShT P x w r0) (cc, 0, P) i).2.1, pu (sIt (sShT P x w r0) (cc, 0, P) i).2.2 2 y)
  | 0 => rfl
  | i + 1 => by rw [sIt_succ, sIt_succ, sShI_pu2 i, shT_pu2]
theorem sShare_pu2 {P : Nat → Int} {r0 n : Nat} {x y : Int} : sShare (pu P 2 y) r0 n x = ((sShare P r0 n x).1, pu (sShare P r0 n x).2 2 y) := by
  have e1 : sWt (pu P 2 y) r0 n = sWt P r0 n := sSum_cong (fun k _ => pu_n (by omega))
  have e2 : sSum (fun k => sPt (pu P 2 y) x (sWt P r0 n) (r0 + k)) n = sSum (fun k => sPt P x (sWt P r0 n) (r0 + k)) n := sSum_cong (fun k _ => by show (x * pu P 2 y (53 + 3 * (r0 + k))).tdiv _ = _; rw [pu_n (by omega)]; rfl)
  unfold sShare
  simp only [e1, e2, sShI_pu2]
theorem sRun_pu2 {P : Nat → Int} {y : Int} : ∀ {n r : Nat}, sRun (pu P 2 y) n r = sRun P n r
  | 0, r => rfl
  | n + 1, r => by
    simp only [sRun]
    rw [pu_n (by omega), pu_n (by omega), sRun_pu2]
theorem sWant_pu2 {P : Nat → Int} {r : Nat} {a x y : Int} : sWant (pu P 2 y) r a x = sWant P r a x := by
  unfold sWant
  rw [pu_n (j := 51 + 3 * r) (by omega), pu_n (j := 53 + 3 * r) (by omega), pu_n (j := 52 + 3 * r) (by omega), pu_n (by omega)]
theorem recT_pu2 {a y : Int} (i : Nat) (t : Nat × Int × (Nat → Int)) : sRecT a i (t.1, t.2.1, pu t.2.2 2 y) = ((sRecT a i t).1, (sRecT a i t).2.1, pu (sRecT a i t).2.2 2 y) := by
  obtain ⟨r, x, P⟩ := t
  simp only [sRecT]
  rw [pu_n (j := 8) (by omega), pu_n (j := 51 + 3 * r) (by omega)]
  split
  · split
    · rw [sRun_pu2, sShare_pu2]
    · rw [sWant_pu2, pu_n (j := 52 + 3 * r) (by omega), sIs_pu2, sPut_pu2]
  · rfl
theorem recI_pu2 {P : Nat → Int} {a y x : Int} : ∀ i, sIt (sRecT a) (0, x, pu P 2 y) i = ((sIt (sRecT a) (0, x, P) i).1, (sIt (sRecT a) (0, x, P) i).2.1, pu (sIt (sRecT a) (0, x, P) i).2.2 2 y)
  | 0 => rfl
  | i + 1 => by rw [sIt_succ, sIt_succ, recI_pu2 i, recT_pu2]
theorem shI_2 {P : Nat → Int} {x w cc : Int} {r0 : Nat} : ∀ i, (sIt (sShT P x w r0) (cc, 0, P) i).2.2 2 = P 2
  | 0 => rfl
  | i + 1 => by
    rw [sIt_succ]
    refine Eq.trans ?_ (shI_2 (P := P) (x := x) (w := w) (cc := cc) (r0 := r0) i)
    simp only [sShT]
    exact sPut_n (by omega)
theorem recI_2 {P : Nat → Int} {a x : Int} : ∀ i, (sIt (sRecT a) (0, x, P) i).2.2 2 = P 2
  | 0 => rfl
  | i + 1 => by
    rw [sIt_succ]
    refine Eq.trans ?_ (recI_2 (P := P) (a := a) (x := x) i)
    generalize sIt (sRecT a) (0, x, P) i = t
    obtain ⟨r, x, Q⟩ := t
    simp only [sRecT]
    split
    · split
      · exact shI_2 _
      · exact sPut_n (by omega)
    · rfl
/-- the reference books what was received at the end, the class at the beginning -/
theorem sRec_sInc {P : Nat → Int} {a : Int} : sRec P a = sInc P a := by
  unfold sRec sInc
  simp only [recI_pu2, recI_2, pu_n (show (0 : Nat) ≠ 2 by omega)]
  rw [pu_comm (by omega)]
