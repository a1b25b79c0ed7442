theorem sIt_stab {σ : Type} {step : Nat → σ → σ} {s0 s : σ} {k : Nat} (h : ∀ k, step k s = s) (hk : sIt step s0 k = s) : ∀ d, sIt step s0 (k + d) = s
  | 0 => hk
  | d + 1 => by
    rw [show k + (d + 1) = (k + d) + 1 by omega, sIt_succ, sIt_stab h hk d]
    exact h _
/-- the rules are in order -/
def rlOk (P : Nat → Int) : Prop := (0 ≤ P 8 ∧ P 8 ≤ 6) ∧ ∀ r : Nat, (r : Int) < P 8 → 0 ≤ P (51 + 3 * r) ∧ P (51 + 3 * r) ≤ 4 ∧ 0 ≤ P (52 + 3 * r) ∧ P (52 + 3 * r) < P 7 ∧ 0 ≤ P (53 + 3 * r) ∧ P (53 + 3 * r) ≤ 1000000 ∧ (P (51 + 3 * r) = 4 → 1 ≤ P (53 + 3 * r) ∧ P (53 + 3 * r) ≤ 99)
theorem rlOk_of {P Q : Nat → Int} (H : rlOk P) (h7 : Q 7 = P 7) (h8 : Q 8 = P 8) (h : ∀ j, 51 ≤ j → Q j = P j) : rlOk Q := by
  refine ⟨by rw [h8]; exact H.1, fun r hr => ?_⟩
  rw [h8] at hr
  have := H.2 r hr
  rw [h (51 + 3 * r) (by omega), h (52 + 3 * r) (by omega), h (53 + 3 * r) (by omega), h7]
  exact this
theorem shOk_of {P : Nat → Int} (H : rlOk P) {r : Nat} (hr : (r : Int) < P 8) (h4 : P (51 + 3 * r) = 4) : shOk P r (sRun P 6 r) ∧ ((r + sRun P 6 r : Nat) : Int) ≤ P 8 := by
  have h1 : 1 ≤ sRun P 6 r := by
    simp only [sRun]; rw [if_pos ⟨hr, h4⟩]; omega
  have hin := fun j hj => sRun_in (P := P) (n := 6) (r := r) j hj
  have hl := hin (sRun P 6 r - 1) (by omega)
  have h8 := H.1
  refine ⟨⟨by omega, h1, fun j hj => ?_⟩, by omega⟩
  have a := hin j hj
  have b := H.2 (r + j) a.1
  have c := b.2.2.2.2.2.2 a.2
  exact ⟨b.2.2.1, b.2.2.2.1, c.1, c.2⟩
theorem want_in {P : Nat → Int} {r : Nat} {a x : Int} (h53 : 0 ≤ P (53 + 3 * r) ∧ P (53 + 3 * r) ≤ 1000000) (ha : 0 ≤ a ∧ a ≤ 1000000) (hx : 0 ≤ x ∧ x ≤ 1000000) : 0 ≤ sWant P r a x := by
  have m1 := mul_ok ha.1 ha.2 h53.1 h53.2
  have m2 := mul_ok hx.1 hx.2 h53.1 h53.2
  unfold sWant
  simp only []
  split
  · omega
  · split
    · exact m1.2.1
    · split
      · exact m2.2.1
      · split <;> omega
theorem parts_le {P : Nat → Int} {r0 m : Nat} {x w : Int} (H : shOk P r0 m) (x0 : 0 ≤ x) (x1 : x ≤ 1000000) (hw : 1 ≤ w) : ∀ i, i ≤ m → sSum (fun k => sPt P x w (r0 + k)) i * w ≤ x * sWt P r0 i
  | 0, _ => by show (0 : Int) * w ≤ x * 0; omega
  | i + 1, h => by
    have ih := parts_le H x0 x1 hw i (by omega)
    have h2 := H.2.2 i (by omega)
    have hn : 0 ≤ x * P (53 + 3 * (r0 + i)) := Int.mul_nonneg x0 (by omega)
    have h3 : sPt P x w (r0 + i) * w ≤ x * P (53 + 3 * (r0 + i)) := by
      unfold sPt
      rw [Int.tdiv_eq_ediv_of_nonneg hn]
      exact Int.ediv_mul_le _ (by omega)
    show (sSum _ i + sPt P x w (r0 + i)) * w ≤ x * (sWt P r0 i + P (53 + 3 * (r0 + i)))
    rw [Int.add_mul, Int.mul_add]
    omega
theorem parts_x {P : Nat → Int} {r0 m : Nat} {x : Int} (H : shOk P r0 m) (x0 : 0 ≤ x) (x1 : x ≤ 1000000) : sSum (fun k => sPt P x (sWt P r0 m) (r0 + k)) m ≤ x := by
  have hw := sWt_in H m (Nat.le_refl m)
  have h1 := H.2.1
  have hw1 : 1 ≤ sWt P r0 m := by omega
  have := parts_le H x0 x1 hw1 m (Nat.le_refl m)
  exact Int.le_of_mul_le_mul_right this (by omega)
/-- what a turn of the sharing keeps -/
theorem shT_inv {P : Nat → Int} {r0 m : Nat} {x w c u : Int} (H : shOk P r0 m) (W : wfE P u) (x0 : 0 ≤ x) (x1 : x ≤ 1000000) (hw : 1 ≤ w) (c0 : 0 ≤ c) : ∀ i, i ≤ m →
    (0 ≤ (sIt (sShT P x w r0) (c, 0, P) i).1 ∧ (sIt (sShT P x w r0) (c, 0, P) i).1 ≤ c) ∧
    (0 ≤ (sIt (sShT P x w r0) (c, 0, P) i).2.1 ∧ (sIt (sShT P x w r0) (c, 0, P) i).2.1 ≤ sSum (fun k => sPt P x w (r0 + k)) i + (c - (sIt (sShT P x w r0) (c, 0, P) i).1)) ∧
    wfE (sIt (sShT P x w r0) (c, 0, P) i).2.2 (u + i * 1000000000) ∧ (∀ j, (j < 11 ∨ 51 ≤ j) → (sIt (sShT P x w r0) (c, 0, P) i).2.2 j = P j)
  | 0, _ => by
    refine ⟨⟨c0, Int.le_refl c⟩, ⟨Int.le_refl 0, ?_⟩, wfE_mono W (by omega), fun _ _ => rfl⟩
    show (0 : Int) ≤ 0 + (c - c)
    omega
  | i + 1, hi => by
    obtain ⟨a, b, d, e⟩ := shT_inv H W x0 x1 hw c0 i (by omega)
    have h2 := H.2.2 i (by omega)
    have h3 := shp_ok x0 x1 h2.2.2.1 h2.2.2.2 hw
    rw [sIt_succ]
    generalize sIt (sShT P x w r0) (c, 0, P) i = s at a b d e ⊢
    obtain ⟨rs, tk, Q⟩ := s
    have hpt : sPt P x w (r0 + i) = (x * P (53 + 3 * (r0 + i))).tdiv w := rfl
    have hs : sSum (fun k => sPt P x w (r0 + k)) (i + 1) = sSum (fun k => sPt P x w (r0 + k)) i + sPt P x w (r0 + i) := rfl
    simp only [sShT] at a b d e ⊢
    have h7 : Q 7 = P 7 := e 7 (by omega)
    have hq := d.1
    have hone : (0 : Int) ≤ (if 0 < rs then 1 else 0) ∧ (if 0 < rs then 1 else 0) ≤ (1 : Int) ∧ (if 0 < rs then 1 else 0) ≤ rs := by split <;> omega
    generalize (if 0 < rs then (1 : Int) else 0) = one at hone ⊢
    have hl := sIs_le (P := Q) (e := (P (52 + 3 * (r0 + i))).toNat) (a := sPt P x w (r0 + i) + one) (by omega)
    refine ⟨by omega, ⟨by omega, by rw [hs]; omega⟩, wfE_mono (wfE_put (d := 1000000000) d (by omega) (by omega) (by omega)) (by omega), fun j hj => ?_⟩
    rw [sPut_n (by omega)]
    exact e j hj
theorem sShare_in {P : Nat → Int} {r0 m : Nat} {x u : Int} (H : shOk P r0 m) (W : wfE P u) (x0 : 0 ≤ x) (x1 : x ≤ 1000000) :
    (0 ≤ (sShare P r0 m x).1 ∧ (sShare P r0 m x).1 ≤ x) ∧ wfE (sShare P r0 m x).2 (u + 6000000000) ∧ (∀ j, (j < 11 ∨ 51 ≤ j) → (sShare P r0 m x).2 j = P j) := by
  have hw := sWt_in H m (Nat.le_refl m)
  have h1 := H.2.1
  have h2 := H.1
  have hx := parts_x H x0 x1
  have hi := shT_inv (c := x - sSum (fun k => sPt P x (sWt P r0 m) (r0 + k)) m) H W x0 x1 (by omega : 1 ≤ sWt P r0 m) (by omega) m (Nat.le_refl m)
  obtain ⟨a, b, d, e⟩ := hi
  exact ⟨⟨b.1, by show (sIt (sShT P x (sWt P r0 m) r0) (x - sSum (fun k => sPt P x (sWt P r0 m) (r0 + k)) m, 0, P) m).2.1 ≤ x; omega⟩, wfE_mono d (by omega), e⟩
/-- an income: what comes to the pool, the plan -/
def sInc (P : Nat → Int) (amount : Int) : Int × (Nat → Int) :=
  let s := sIt (sRecT amount) (0, amount, pu P 2 (P 2 + amount)) 6
  (s.2.1, pu s.2.2 0 (s.2.2 0 + s.2.1))
