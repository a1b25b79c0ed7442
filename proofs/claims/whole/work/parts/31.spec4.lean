theorem tdiv_ok {a b : Int} (h0 : 0 ≤ a) (h1 : 1 ≤ b) : 0 ≤ a.tdiv b ∧ a.tdiv b ≤ a := by
  rw [Int.tdiv_eq_ediv_of_nonneg h0]
  refine ⟨Int.ediv_nonneg h0 (by omega), ?_⟩
  exact Int.ediv_le_self b h0
theorem shp_ok {a b w : Int} (a0 : 0 ≤ a) (a1 : a ≤ 1000000) (b0 : 1 ≤ b) (b1 : b ≤ 99) (hw : 1 ≤ w) : rL (a * b) ∧ 0 ≤ (a * b).tdiv w ∧ (a * b).tdiv w ≤ 99000000 := by
  have x : 0 ≤ a * b := Int.mul_nonneg a0 (by omega)
  have y : a * b ≤ a * 99 := Int.mul_le_mul_of_nonneg_left b1 a0
  have z := tdiv_ok x hw
  exact ⟨⟨by omega, by omega⟩, z.1, by omega⟩
theorem sRun_eq {P : Nat → Int} : ∀ {n r i : Nat}, r ≤ i → i ≤ r + n → (∀ j, r ≤ j → j < i → (j : Int) < P 8 ∧ P (51 + 3 * j) = 4) → (i = r + n ∨ ¬ ((i : Int) < P 8 ∧ P (51 + 3 * i) = 4)) → sRun P n r = i - r
  | 0, r, i, h1, h2, h3, h4 => by
    show 0 = i - r
    omega
  | n + 1, r, i, h1, h2, h3, h4 => by
    unfold sRun
    by_cases hri : i = r
    · subst hri
      rw [if_neg (by rcases h4 with h | h; omega; exact h)]; omega
    · rw [if_pos (h3 r (by omega) (by omega)), sRun_eq (i := i) (by omega) (by omega) (fun j a b => h3 j (by omega) b) (by omega)]; omega
theorem sRun_in {P : Nat → Int} : ∀ {n r : Nat}, ∀ j, j < sRun P n r → ((r + j : Nat) : Int) < P 8 ∧ P (51 + 3 * (r + j)) = 4
  | 0, r, j, h => absurd h (Nat.not_lt_zero _)
  | n + 1, r, j, h => by
    simp only [sRun] at h
    split at h
    · rename_i hc
      cases j with
      | zero => exact hc
      | succ j =>
        have := sRun_in (P := P) (n := n) (r := r + 1) j (by omega)
        rw [show r + (j + 1) = r + 1 + j by omega]
        exact this
    · omega
theorem wfE_put {P : Nat → Int} {u a d : Int} {e : Nat} (H : wfE P u) (ha : 0 ≤ a) (had : a ≤ d) (he : e < 10) : wfE (sPut P e a) (u + d) := by
  have hi := sIs_le (P := P) (e := e) ha
  refine ⟨by unfold sPut; rw [pu_n (by omega)]; exact H.1, fun j hj => ?_⟩
  obtain ⟨⟨h1, h2⟩, h3, h4⟩ := H.2 j hj
  unfold sPut
  refine ⟨?_, ?_, ?_⟩
  · by_cases hz : j = e
    · subst hz; rw [pu_s]; omega
    · rw [pu_n (by omega)]; omega
  · rw [pu_n (by omega)]; exact h3
  · rw [pu_n (by omega)]; exact h4
theorem wfE_mono {P : Nat → Int} {u v : Int} (H : wfE P u) (h : u ≤ v) : wfE P v := ⟨H.1, fun e he => by
  obtain ⟨⟨h1, h2⟩, h3⟩ := H.2 e he
  exact ⟨⟨h1, by omega⟩, h3⟩⟩
theorem sPut_n {P : Nat → Int} {e j : Nat} {a : Int} (h : j ≠ 11 + 4 * e) : sPut P e a j = P j := pu_n h
/-- the rules from r0 on, m of them, are of kind 4 and in order -/
def shOk (P : Nat → Int) (r0 m : Nat) : Prop := r0 + m ≤ 6 ∧ 1 ≤ m ∧ ∀ j, j < m → 0 ≤ P (52 + 3 * (r0 + j)) ∧ P (52 + 3 * (r0 + j)) < P 7 ∧ 1 ≤ P (53 + 3 * (r0 + j)) ∧ P (53 + 3 * (r0 + j)) ≤ 99
theorem sWt_in {P : Nat → Int} {r0 m : Nat} (H : shOk P r0 m) : ∀ i, i ≤ m → (i : Int) ≤ sWt P r0 i ∧ sWt P r0 i ≤ 99 * i
  | 0, _ => by exact ⟨by show (0 : Int) ≤ 0; omega, by show (0 : Int) ≤ 0; omega⟩
  | i + 1, h => by
    have := sWt_in H i (by omega)
    have h2 := H.2.2 i (by omega)
    show ((i + 1 : Nat) : Int) ≤ sWt P r0 i + P (53 + 3 * (r0 + i)) ∧ sWt P r0 i + P (53 + 3 * (r0 + i)) ≤ _
    omega
theorem sPts_in {P : Nat → Int} {r0 m : Nat} {x w : Int} (H : shOk P r0 m) (x0 : 0 ≤ x) (x1 : x ≤ 1000000) (hw : 1 ≤ w) : ∀ i, i ≤ m → 0 ≤ sSum (fun k => sPt P x w (r0 + k)) i ∧ sSum (fun k => sPt P x w (r0 + k)) i ≤ 99000000 * i
  | 0, _ => by exact ⟨by show (0 : Int) ≤ 0; omega, by show (0 : Int) ≤ 0; omega⟩
  | i + 1, h => by
    have := sPts_in H x0 x1 hw i (by omega)
    have h2 := H.2.2 i (by omega)
    have h3 := shp_ok x0 x1 h2.2.2.1 h2.2.2.2 hw
    show 0 ≤ sSum _ i + sPt P x w (r0 + i) ∧ sSum _ i + sPt P x w (r0 + i) ≤ _
    unfold sPt at *
    omega
