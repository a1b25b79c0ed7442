theorem capOk_g {P Q : Nat → Int} (H : capOk P) (h7 : Q 7 = P 7) (h : ∀ j, 11 ≤ j → j < 51 → j % 4 ≠ 3 → j % 4 ≠ 2 → Q j = P j) : capOk Q := by
  refine ⟨by rw [h7]; exact H.1, fun e he => ?_⟩
  rw [h (12 + 4 * e) (by omega) (by omega) (by omega) (by omega), h (13 + 4 * e) (by omega) (by omega) (by omega) (by omega)]
  exact H.2 e he
theorem rlOk_g {P Q : Nat → Int} (H : rlOk P) (h7 : P 7 ≤ Q 7) (h8 : Q 8 = P 8) (h : ∀ j, 51 ≤ j → j < 69 → Q j = P j) : rlOk Q := by
  refine ⟨by rw [h8]; exact H.1, fun r hr => ?_⟩
  rw [h8] at hr
  have := H.2 r hr
  have := H.1
  rw [h (51 + 3 * r) (by omega) (by omega), h (52 + 3 * r) (by omega) (by omega), h (53 + 3 * r) (by omega) (by omega)]
  omega
theorem lkOk_g {P Q : Nat → Int} (H : lkOk P) (h7 : P 7 ≤ Q 7) (h9 : Q 9 = P 9) (h : ∀ j, 69 ≤ j → j < 99 → Q j = P j) : lkOk Q := by
  refine ⟨by rw [h9]; exact H.1, fun r hr => ?_⟩
  rw [h9] at hr
  have := H.2 r hr
  have := H.1
  rw [h (69 + 5 * r) (by omega) (by omega), h (70 + 5 * r) (by omega) (by omega), h (71 + 5 * r) (by omega) (by omega), h (72 + 5 * r) (by omega) (by omega)]
  omega
theorem mny_g {P Q : Nat → Int} (H : mny P) (h0 : Q 0 = P 0) (h2 : Q 2 = P 2) (h3 : Q 3 = P 3) (h : ∀ e, e < 10 → Q (11 + 4 * e) = P (11 + 4 * e)) : mny Q := by
  obtain ⟨a, b, c, d⟩ := H
  refine ⟨by rw [h0]; exact a, by rw [h3]; exact b, fun e he => by rw [h e he]; exact c e he, ?_⟩
  rw [bS_of h, h0, h2, h3]; exact d
/-- the items are in order -/
def itOk (P : Nat → Int) : Prop := (0 ≤ P 10 ∧ P 10 ≤ 8) ∧ ∀ i : Nat, (i : Int) < P 10 → itk P i ∧ P 1 < P (103 + 6 * i) ∧ P (103 + 6 * i) ≤ P 1 + 60
theorem pOk_it {P : Nat → Int} {v : Int} (H : pOk P v) : itOk P := by
  obtain ⟨c, r, l, m, b, d, s, t, i⟩ := H
  exact ⟨t, fun k hk => ⟨(i k hk).1, (i k hk).2.1.2 (by omega), (i k hk).2.2⟩⟩
theorem itOk_g {P Q : Nat → Int} (H : itOk P) (h7 : P 7 ≤ Q 7) (h10 : Q 10 = P 10) (h1 : Q 1 = P 1) (h4 : Q 4 = P 4) (h : ∀ j, 99 ≤ j → Q j = P j) : itOk Q := by
  refine ⟨by rw [h10]; exact H.1, fun i hi => ?_⟩
  rw [h10] at hi
  have q := H.2 i hi
  unfold itk at q ⊢
  rw [h (99 + 6 * i) (by omega), h (100 + 6 * i) (by omega), h (101 + 6 * i) (by omega), h (102 + 6 * i) (by omega), h (103 + 6 * i) (by omega), h (104 + 6 * i) (by omega), h1, h4]
  omega
theorem pOk_mk {P Q : Nat → Int} {v w : Int} (H : pOk P v) (hw : v ≤ w) (c : capOk Q) (r : rlOk Q) (l : lkOk Q) (m : mny Q) (h2 : Q 2 = P 2) (h1 : Q 1 = P 1) (h4 : Q 4 = P 4) (i : itOk Q) : pOk Q w := by
  obtain ⟨_, _, _, _, b, d, s, _, _⟩ := H
  refine ⟨c, r, l, m, by rw [h2]; omega, by rw [h1]; omega, by rw [h4]; omega, i.1, fun k hk => ?_⟩
  have q := i.2 k hk
  exact ⟨q.1, ⟨by omega, fun _ => q.2.1⟩, q.2.2⟩
theorem sRem_n {P : Nat → Int} {o w c e j : Nat} (h : j ≠ c) (h2 : j < o + w * e ∨ (o : Int) + w * (P c - 1) ≤ j) : sRem P o w c e j = P j := by
  simp only [sRem]
  rw [if_neg h, if_neg (by omega)]
theorem sRem_y {P : Nat → Int} {o w c e j : Nat} (h : j ≠ c) (h1 : o + w * e ≤ j) (h2 : (j : Int) < o + w * (P c - 1)) : sRem P o w c e j = P (j + w) := by
  simp only [sRem]
  rw [if_neg h, if_pos ⟨h1, h2⟩]
theorem sRem_c {P : Nat → Int} {o w c e : Nat} : sRem P o w c e c = P c - 1 := by simp [sRem]
theorem pf_0 {P : Nat → Int} {v a b : Int} (H : pOk P v) (h7 : P 7 < 10) (h : (-1 ≤ a ∧ a ≤ 9000000) ∧ 0 ≤ b ∧ b ≤ 2) : pOk (sAppE P (P 7).toNat a b) v := by
  have c := H.1
  obtain ⟨n, hn⟩ : ∃ n : Nat, P 7 = n := ⟨(P 7).toNat, by have := c.1; omega⟩
  rw [hn, Int.toNat_natCast]
  have q7 : sAppE P n a b 7 = n + 1 := by unfold sAppE; rw [pu_s]
  have qo : ∀ j, j ≠ 7 → (j < 11 ∨ 51 ≤ j) → sAppE P n a b j = P j := fun j h1 h2 => by unfold sAppE; rw [pu_n (by omega), pu_n (by omega), pu_n (by omega), pu_n (by omega), pu_n (by omega)]
  have qb : ∀ e, e < 10 → sAppE P n a b (11 + 4 * e) = if e = n then 0 else P (11 + 4 * e) := fun e he => by
    unfold sAppE
    rw [pu_n (by omega), pu_n (by omega), pu_n (by omega), pu_n (by omega)]
    by_cases hz : e = n
    · subst hz; rw [pu_s, if_pos rfl]
    · rw [pu_n (by omega), if_neg hz]
  refine pOk_mk H (Int.le_refl v) ⟨by rw [q7]; omega, fun e he => ?_⟩ (rlOk_g H.2.1 (by rw [q7]; omega) (qo 8 (by omega) (by omega)) (fun j _ _ => qo j (by omega) (by omega))) (lkOk_g H.2.2.1 (by rw [q7]; omega) (qo 9 (by omega) (by omega)) (fun j _ _ => qo j (by omega) (by omega))) ?_ (qo 2 (by omega) (by omega)) (qo 1 (by omega) (by omega)) (qo 4 (by omega) (by omega)) (itOk_g (pOk_it H) (by rw [q7]; omega) (qo 10 (by omega) (by omega)) (qo 1 (by omega) (by omega)) (qo 4 (by omega) (by omega)) (fun j _ => qo j (by omega) (by omega)))
  · unfold sAppE
    rw [pu_n (k := 7) (by omega), pu_n (k := 14 + 4 * n) (by omega), pu_n (k := 7) (by omega), pu_n (k := 14 + 4 * n) (by omega)]
    by_cases hz : e = n
    · subst hz; rw [pu_n (by omega), pu_s, pu_s]; exact h
    · rw [pu_n (by omega), pu_n (by omega), pu_n (by omega), pu_n (by omega), pu_n (by omega), pu_n (by omega)]; exact c.2 e he
  · obtain ⟨m0, m3, mb, mc⟩ := H.2.2.2.1
    have hb0 : bS (sAppE P n a b) = bS P - P (11 + 4 * n) + 0 := by
      have := sSum_upd (A := fun e => P (11 + 4 * e)) (B := fun e => if e = n then 0 else P (11 + 4 * e)) (i := n) (n := 10) (by omega) (fun k hk => if_neg hk)
      simp only [if_pos] at this
      rw [show bS (sAppE P n a b) = sSum (fun e => if e = n then 0 else P (11 + 4 * e)) 10 from sSum_cong (fun k hk => qb k hk)]
      exact this
    have hbn := mb n (by omega)
    refine ⟨by rw [qo 0 (by omega) (by omega)]; exact m0, by rw [qo 3 (by omega) (by omega)]; exact m3, fun e he => by rw [qb e he]; split; exact Int.le_refl 0; exact mb e he, ?_⟩
    rw [hb0, qo 0 (by omega) (by omega), qo 3 (by omega) (by omega), qo 2 (by omega) (by omega)]
    omega
theorem pf_12 {P : Nat → Int} {v x : Int} {k : Nat} (H : pOk P v) (hk : 11 ≤ k ∧ k < 51 ∧ (k % 4 = 0 ∨ k % 4 = 1)) (h : (k % 4 = 0 → -1 ≤ x ∧ x ≤ 9000000) ∧ (k % 4 = 1 → 0 ≤ x ∧ x ≤ 2)) : pOk (pu P k x) v := by
  have qo : ∀ j, j ≠ k → pu P k x j = P j := fun j hj => pu_n hj
  refine pOk_mk H (Int.le_refl v) ⟨by rw [qo 7 (by omega)]; exact H.1.1, fun e he => ?_⟩ (rlOk_g H.2.1 (by rw [qo 7 (by omega)]; exact Int.le_refl _) (qo 8 (by omega)) (fun j _ _ => qo j (by omega))) (lkOk_g H.2.2.1 (by rw [qo 7 (by omega)]; exact Int.le_refl _) (qo 9 (by omega)) (fun j _ _ => qo j (by omega))) (mny_g H.2.2.2.1 (qo 0 (by omega)) (qo 2 (by omega)) (qo 3 (by omega)) (fun e he => qo _ (by omega))) (qo 2 (by omega)) (qo 1 (by omega)) (qo 4 (by omega)) (itOk_g (pOk_it H) (by rw [qo 7 (by omega)]; exact Int.le_refl _) (qo 10 (by omega)) (qo 1 (by omega)) (qo 4 (by omega)) (fun j _ => qo j (by omega)))
  have ce := H.1.2 e he
  refine ⟨?_, ?_⟩
  · by_cases hz : 12 + 4 * e = k
    · rw [hz, pu_s]; exact h.1 (by omega)
    · rw [qo _ hz]; exact ce.1
  · by_cases hz : 13 + 4 * e = k
    · rw [hz, pu_s]; exact h.2 (by omega)
    · rw [qo _ hz]; exact ce.2
theorem pf_3 {P : Nat → Int} {v a b x : Int} (H : pOk P v) (h8 : P 8 < 6) (hb : 0 ≤ b ∧ b < P 7) (ha : 0 ≤ a ∧ a ≤ 4) (hx : 0 ≤ x ∧ x ≤ 1000000) (h4 : a = 4 → 1 ≤ x ∧ x ≤ 99) : pOk (sApp3 P (P 8).toNat a b x) v := by
  have c := H.2.1
  obtain ⟨n, hn⟩ : ∃ n : Nat, P 8 = n := ⟨(P 8).toNat, by have := c.1; omega⟩
  rw [hn, Int.toNat_natCast]
  have qo : ∀ j, j ≠ 8 → (j < 51 ∨ 69 ≤ j) → sApp3 P n a b x j = P j := fun j h1 h2 => by unfold sApp3; rw [pu_n (by omega), pu_n (by omega), pu_n (by omega), pu_n (by omega)]
  have q8 : sApp3 P n a b x 8 = n + 1 := by unfold sApp3; rw [pu_s]
  refine pOk_mk H (Int.le_refl v) (capOk_g H.1 (qo 7 (by omega) (by omega)) (fun j _ _ _ _ => qo j (by omega) (by omega))) ⟨by rw [q8]; omega, fun r hr => ?_⟩ (lkOk_g H.2.2.1 (by rw [qo 7 (by omega) (by omega)]; exact Int.le_refl _) (qo 9 (by omega) (by omega)) (fun j _ _ => qo j (by omega) (by omega))) (mny_g H.2.2.2.1 (qo 0 (by omega) (by omega)) (qo 2 (by omega) (by omega)) (qo 3 (by omega) (by omega)) (fun e he => qo _ (by omega) (by omega))) (qo 2 (by omega) (by omega)) (qo 1 (by omega) (by omega)) (qo 4 (by omega) (by omega)) (itOk_g (pOk_it H) (by rw [qo 7 (by omega) (by omega)]; exact Int.le_refl _) (qo 10 (by omega) (by omega)) (qo 1 (by omega) (by omega)) (qo 4 (by omega) (by omega)) (fun j _ => qo j (by omega) (by omega)))
  rw [q8] at hr
  rw [qo 7 (by omega) (by omega)]
  unfold sApp3
  rw [pu_n (k := 8) (by omega), pu_n (k := 8) (by omega), pu_n (k := 8) (by omega)]
  by_cases hz : r = n
  · subst hz
    rw [pu_n (by omega), pu_n (by omega), pu_s, pu_n (by omega), pu_s, pu_s]
    exact ⟨ha.1, ha.2, hb.1, hb.2, hx.1, hx.2, h4⟩
  · rw [pu_n (by omega), pu_n (by omega), pu_n (by omega), pu_n (by omega), pu_n (by omega), pu_n (by omega), pu_n (by omega), pu_n (by omega), pu_n (by omega)]
    exact c.2 r (by omega)
theorem pf_4 {P : Nat → Int} {v : Int} {e : Nat} (H : pOk P v) (he : (e : Int) < P 8) : pOk (sRem P 51 3 8 e) v := by
  have c := H.2.1
  have qo : ∀ j, j ≠ 8 → (j < 51 ∨ 69 ≤ j) → sRem P 51 3 8 e j = P j := fun j h1 h2 => sRem_n h1 (by have := c.1; omega)
  refine pOk_mk H (Int.le_refl v) (capOk_g H.1 (qo 7 (by omega) (by omega)) (fun j _ _ _ _ => qo j (by omega) (by omega))) ⟨by rw [sRem_c]; have := c.1; omega, fun r hr => ?_⟩ (lkOk_g H.2.2.1 (by rw [qo 7 (by omega) (by omega)]; exact Int.le_refl _) (qo 9 (by omega) (by omega)) (fun j _ _ => qo j (by omega) (by omega))) (mny_g H.2.2.2.1 (qo 0 (by omega) (by omega)) (qo 2 (by omega) (by omega)) (qo 3 (by omega) (by omega)) (fun e he => qo _ (by omega) (by omega))) (qo 2 (by omega) (by omega)) (qo 1 (by omega) (by omega)) (qo 4 (by omega) (by omega)) (itOk_g (pOk_it H) (by rw [qo 7 (by omega) (by omega)]; exact Int.le_refl _) (qo 10 (by omega) (by omega)) (qo 1 (by omega) (by omega)) (qo 4 (by omega) (by omega)) (fun j _ => qo j (by omega) (by omega)))
  rw [sRem_c] at hr
  rw [qo 7 (by omega) (by omega)]
  have c1 := c.1
  by_cases hz : r < e
  · rw [sRem_n (by omega) (by omega), sRem_n (by omega) (by omega), sRem_n (by omega) (by omega)]
    exact c.2 r (by omega)
  · rw [sRem_y (by omega) (by omega) (by omega), sRem_y (by omega) (by omega) (by omega), sRem_y (by omega) (by omega) (by omega)]
    exact c.2 (r + 1) (by omega)
theorem pf_5 {P : Nat → Int} {v a b x y : Int} (H : pOk P v) (h9 : P 9 < 6) (ha : 0 ≤ a ∧ a < P 7) (hb : 0 ≤ b ∧ b < P 7) (hab : a ≠ b) (hx : 0 ≤ x ∧ x ≤ 9000000) (hy : 1 ≤ y ∧ y ≤ 100) : pOk (sApp5 P (P 9).toNat a b x y) v := by
  have c := H.2.2.1
  obtain ⟨n, hn⟩ : ∃ n : Nat, P 9 = n := ⟨(P 9).toNat, by have := c.1; omega⟩
  rw [hn, Int.toNat_natCast]
  have qo : ∀ j, j ≠ 9 → (j < 69 ∨ 99 ≤ j) → sApp5 P n a b x y j = P j := fun j h1 h2 => by unfold sApp5; rw [pu_n (by omega), pu_n (by omega), pu_n (by omega), pu_n (by omega), pu_n (by omega), pu_n (by omega)]
  have q9 : sApp5 P n a b x y 9 = n + 1 := by unfold sApp5; rw [pu_s]
  refine pOk_mk H (Int.le_refl v) (capOk_g H.1 (qo 7 (by omega) (by omega)) (fun j _ _ _ _ => qo j (by omega) (by omega))) (rlOk_g H.2.1 (by rw [qo 7 (by omega) (by omega)]; exact Int.le_refl _) (qo 8 (by omega) (by omega)) (fun j _ _ => qo j (by omega) (by omega))) ⟨by rw [q9]; omega, fun r hr => ?_⟩ (mny_g H.2.2.2.1 (qo 0 (by omega) (by omega)) (qo 2 (by omega) (by omega)) (qo 3 (by omega) (by omega)) (fun e he => qo _ (by omega) (by omega))) (qo 2 (by omega) (by omega)) (qo 1 (by omega) (by omega)) (qo 4 (by omega) (by omega)) (itOk_g (pOk_it H) (by rw [qo 7 (by omega) (by omega)]; exact Int.le_refl _) (qo 10 (by omega) (by omega)) (qo 1 (by omega) (by omega)) (qo 4 (by omega) (by omega)) (fun j _ => qo j (by omega) (by omega)))
  rw [q9] at hr
  rw [qo 7 (by omega) (by omega)]
  unfold sApp5
  rw [pu_n (k := 9) (by omega), pu_n (k := 9) (by omega), pu_n (k := 9) (by omega), pu_n (k := 9) (by omega)]
  by_cases hz : r = n
  · subst hz
    have e1 : pu (pu (pu (pu (pu P (69 + 5 * r) a) (70 + 5 * r) b) (71 + 5 * r) x) (72 + 5 * r) y) (73 + 5 * r) 0 (69 + 5 * r) = a := by rw [pu_n (by omega), pu_n (by omega), pu_n (by omega), pu_n (by omega), pu_s]
    have e2 : pu (pu (pu (pu (pu P (69 + 5 * r) a) (70 + 5 * r) b) (71 + 5 * r) x) (72 + 5 * r) y) (73 + 5 * r) 0 (70 + 5 * r) = b := by rw [pu_n (by omega), pu_n (by omega), pu_n (by omega), pu_s]
    have e3 : pu (pu (pu (pu (pu P (69 + 5 * r) a) (70 + 5 * r) b) (71 + 5 * r) x) (72 + 5 * r) y) (73 + 5 * r) 0 (71 + 5 * r) = x := by rw [pu_n (by omega), pu_n (by omega), pu_s]
    have e4 : pu (pu (pu (pu (pu P (69 + 5 * r) a) (70 + 5 * r) b) (71 + 5 * r) x) (72 + 5 * r) y) (73 + 5 * r) 0 (72 + 5 * r) = y := by rw [pu_n (by omega), pu_s]
    rw [e1, e2, e3, e4]
    exact ⟨ha.1, ha.2, hb.1, hb.2, hab, hx.1, hx.2, hy.1, hy.2⟩
  · have en : ∀ j, 69 + 5 * r ≤ j → j < 73 + 5 * r → pu (pu (pu (pu (pu P (69 + 5 * n) a) (70 + 5 * n) b) (71 + 5 * n) x) (72 + 5 * n) y) (73 + 5 * n) 0 j = P j := fun j _ _ => by rw [pu_n (by omega), pu_n (by omega), pu_n (by omega), pu_n (by omega), pu_n (by omega)]
    rw [en _ (by omega) (by omega), en _ (by omega) (by omega), en _ (by omega) (by omega), en _ (by omega) (by omega)]
    exact c.2 r (by omega)
theorem pf_6 {P : Nat → Int} {v : Int} {e : Nat} (H : pOk P v) (he : (e : Int) < P 9) : pOk (sRem P 69 5 9 e) v := by
  have c := H.2.2.1
  have qo : ∀ j, j ≠ 9 → (j < 69 ∨ 99 ≤ j) → sRem P 69 5 9 e j = P j := fun j h1 h2 => sRem_n h1 (by have := c.1; omega)
  refine pOk_mk H (Int.le_refl v) (capOk_g H.1 (qo 7 (by omega) (by omega)) (fun j _ _ _ _ => qo j (by omega) (by omega))) (rlOk_g H.2.1 (by rw [qo 7 (by omega) (by omega)]; exact Int.le_refl _) (qo 8 (by omega) (by omega)) (fun j _ _ => qo j (by omega) (by omega))) ⟨by rw [sRem_c]; have := c.1; omega, fun r hr => ?_⟩ (mny_g H.2.2.2.1 (qo 0 (by omega) (by omega)) (qo 2 (by omega) (by omega)) (qo 3 (by omega) (by omega)) (fun e he => qo _ (by omega) (by omega))) (qo 2 (by omega) (by omega)) (qo 1 (by omega) (by omega)) (qo 4 (by omega) (by omega)) (itOk_g (pOk_it H) (by rw [qo 7 (by omega) (by omega)]; exact Int.le_refl _) (qo 10 (by omega) (by omega)) (qo 1 (by omega) (by omega)) (qo 4 (by omega) (by omega)) (fun j _ => qo j (by omega) (by omega)))
  rw [sRem_c] at hr
  rw [qo 7 (by omega) (by omega)]
  have c1 := c.1
  by_cases hz : r < e
  · rw [sRem_n (by omega) (by omega), sRem_n (by omega) (by omega), sRem_n (by omega) (by omega), sRem_n (by omega) (by omega)]
    exact c.2 r (by omega)
  · rw [sRem_y (by omega) (by omega) (by omega), sRem_y (by omega) (by omega) (by omega), sRem_y (by omega) (by omega) (by omega), sRem_y (by omega) (by omega) (by omega)]
    exact c.2 (r + 1) (by omega)
theorem pf_7 {P : Nat → Int} {v a b x y : Int} (H : pOk P v) (h10 : P 10 < 8) (ha : (a = 1 ∧ 0 ≤ b ∧ b < P 7) ∨ a = 0) (hx : 1 ≤ x ∧ x ≤ 1000000) (hy : 1 ≤ y ∧ y ≤ 60) : pOk (sApp6 P (P 10).toNat a b x y (P 1 + y)) v := by
  have c := pOk_it H
  obtain ⟨n, hn⟩ : ∃ n : Nat, P 10 = n := ⟨(P 10).toNat, by have := c.1; omega⟩
  rw [hn, Int.toNat_natCast]
  have qo : ∀ j, j ≠ 10 → j < 99 → sApp6 P n a b x y (P 1 + y) j = P j := fun j h1 h2 => by unfold sApp6; rw [pu_n (by omega), pu_n (by omega), pu_n (by omega), pu_n (by omega), pu_n (by omega), pu_n (by omega), pu_n (by omega)]
  have q10 : sApp6 P n a b x y (P 1 + y) 10 = n + 1 := by unfold sApp6; rw [pu_s]
  have p4 := H.2.2.2.2.2.2.1
  refine pOk_mk H (Int.le_refl v) (capOk_g H.1 (qo 7 (by omega) (by omega)) (fun j _ _ _ _ => qo j (by omega) (by omega))) (rlOk_g H.2.1 (by rw [qo 7 (by omega) (by omega)]; exact Int.le_refl _) (qo 8 (by omega) (by omega)) (fun j _ _ => qo j (by omega) (by omega))) (lkOk_g H.2.2.1 (by rw [qo 7 (by omega) (by omega)]; exact Int.le_refl _) (qo 9 (by omega) (by omega)) (fun j _ _ => qo j (by omega) (by omega))) (mny_g H.2.2.2.1 (qo 0 (by omega) (by omega)) (qo 2 (by omega) (by omega)) (qo 3 (by omega) (by omega)) (fun e he => qo _ (by omega) (by omega))) (qo 2 (by omega) (by omega)) (qo 1 (by omega) (by omega)) (qo 4 (by omega) (by omega)) ⟨by rw [q10]; omega, fun r hr => ?_⟩
  rw [q10] at hr
  unfold itk
  rw [qo 7 (by omega) (by omega), qo 4 (by omega) (by omega), qo 1 (by omega) (by omega)]
  by_cases hz : r = n
  · subst hz
    have e1 : sApp6 P r a b x y (P 1 + y) (99 + 6 * r) = a := by unfold sApp6; rw [pu_n (by omega), pu_n (by omega), pu_n (by omega), pu_n (by omega), pu_n (by omega), pu_n (by omega), pu_s]
    have e2 : sApp6 P r a b x y (P 1 + y) (100 + 6 * r) = b := by unfold sApp6; rw [pu_n (by omega), pu_n (by omega), pu_n (by omega), pu_n (by omega), pu_n (by omega), pu_s]
    have e3 : sApp6 P r a b x y (P 1 + y) (101 + 6 * r) = x := by unfold sApp6; rw [pu_n (by omega), pu_n (by omega), pu_n (by omega), pu_n (by omega), pu_s]
    have e4 : sApp6 P r a b x y (P 1 + y) (102 + 6 * r) = y := by unfold sApp6; rw [pu_n (by omega), pu_n (by omega), pu_n (by omega), pu_s]
    have e5 : sApp6 P r a b x y (P 1 + y) (103 + 6 * r) = P 1 + y := by unfold sApp6; rw [pu_n (by omega), pu_n (by omega), pu_s]
    have e6 : sApp6 P r a b x y (P 1 + y) (104 + 6 * r) = 0 := by unfold sApp6; rw [pu_n (by omega), pu_s]
    rw [e1, e2, e3, e4, e5, e6]
    omega
  · have en : ∀ j, 99 + 6 * r ≤ j → j < 105 + 6 * r → sApp6 P n a b x y (P 1 + y) j = P j := fun j _ _ => by unfold sApp6; rw [pu_n (by omega), pu_n (by omega), pu_n (by omega), pu_n (by omega), pu_n (by omega), pu_n (by omega), pu_n (by omega)]
    rw [en _ (by omega) (by omega), en _ (by omega) (by omega), en _ (by omega) (by omega), en _ (by omega) (by omega), en _ (by omega) (by omega), en _ (by omega) (by omega)]
    exact c.2 r (by omega)
theorem pf_8 {P : Nat → Int} {v : Int} {e : Nat} (H : pOk P v) (he : (e : Int) < P 10) : pOk (sRem P 99 6 10 e) v := by
  have c := pOk_it H
  have qo : ∀ j, j ≠ 10 → j < 99 → sRem P 99 6 10 e j = P j := fun j h1 h2 => sRem_n h1 (by have := c.1; omega)
  refine pOk_mk H (Int.le_refl v) (capOk_g H.1 (qo 7 (by omega) (by omega)) (fun j _ _ _ _ => qo j (by omega) (by omega))) (rlOk_g H.2.1 (by rw [qo 7 (by omega) (by omega)]; exact Int.le_refl _) (qo 8 (by omega) (by omega)) (fun j _ _ => qo j (by omega) (by omega))) (lkOk_g H.2.2.1 (by rw [qo 7 (by omega) (by omega)]; exact Int.le_refl _) (qo 9 (by omega) (by omega)) (fun j _ _ => qo j (by omega) (by omega))) (mny_g H.2.2.2.1 (qo 0 (by omega) (by omega)) (qo 2 (by omega) (by omega)) (qo 3 (by omega) (by omega)) (fun e he => qo _ (by omega) (by omega))) (qo 2 (by omega) (by omega)) (qo 1 (by omega) (by omega)) (qo 4 (by omega) (by omega)) ⟨by rw [sRem_c]; have := c.1; omega, fun r hr => ?_⟩
  rw [sRem_c] at hr
  have c1 := c.1
  unfold itk
  rw [qo 7 (by omega) (by omega), qo 4 (by omega) (by omega), qo 1 (by omega) (by omega)]
  by_cases hz : r < e
  · have en : ∀ j, 99 + 6 * r ≤ j → j < 105 + 6 * r → sRem P 99 6 10 e j = P j := fun j _ _ => sRem_n (by omega) (by omega)
    rw [en _ (by omega) (by omega), en _ (by omega) (by omega), en _ (by omega) (by omega), en _ (by omega) (by omega), en _ (by omega) (by omega), en _ (by omega) (by omega)]
    exact c.2 r (by omega)
  · have en : ∀ j, 99 + 6 * r ≤ j → j < 105 + 6 * r → sRem P 99 6 10 e j = P (j + 6) := fun j _ _ => sRem_y (by omega) (by omega) (by omega)
    rw [en _ (by omega) (by omega), en _ (by omega) (by omega), en _ (by omega) (by omega), en _ (by omega) (by omega), en _ (by omega) (by omega), en _ (by omega) (by omega)]
    exact c.2 (r + 1) (by omega)
/-- a step that isn't refused keeps the plan in order -/
theorem pOk_pf {P : Nat → Int} {v kd a b x y : Int} (H : pOk P v) (hv0 : 0 ≤ v) (hv : v + 541 ≤ 800000000) (hk : 0 ≤ kd ∧ kd ≤ 12) (hn : nmO P kd a b) (hr : rgP kd a b x y) (hm : rmO P kd) (hmm : mnO P kd a b x) : pOk (sPf P kd a b x y).2 (v + 541) := by
  have hvv : v ≤ v + 541 := by omega
  have c7 := H.1.1
  rcases (show kd = 0 ∨ kd = 1 ∨ kd = 2 ∨ kd = 3 ∨ kd = 4 ∨ kd = 5 ∨ kd = 6 ∨ kd = 7 ∨ kd = 8 ∨ kd = 9 ∨ kd = 10 ∨ kd = 11 ∨ kd = 12 by omega) with h | h | h | h | h | h | h | h | h | h | h | h | h <;> subst h
  · exact pOkL_mono (pf_0 H (rm_0 hm) (rg_0.mp hr)) hvv
  · have q := nm_1 hn
    have r := rg_1.mp hr
    exact pOkL_mono (show pOk (pu P (12 + 4 * a.toNat) b) v from pf_12 H (by omega) ⟨fun _ => r, fun h => by omega⟩) hvv
  · have q := nm_2 hn
    have r := rg_2.mp hr
    exact pOkL_mono (show pOk (pu P (13 + 4 * a.toNat) b) v from pf_12 H (by omega) ⟨fun h => by omega, fun _ => r⟩) hvv
  · have q := nm_3 hn
    have r := rg_3.mp hr
    exact pOkL_mono (show pOk (sApp3 P (P 8).toNat a b x) v from pf_3 H (rm_3 hm) q (by omega) (by omega) (by omega)) hvv
  · have q := nm_4 hn
    exact pOkL_mono (show pOk (sRem P 51 3 8 a.toNat) v from pf_4 H (by omega)) hvv
  · have q := nm_5 hn
    have r := rg_5.mp hr
    exact pOkL_mono (show pOk (sApp5 P (P 9).toNat a b x y) v from pf_5 H (rm_5 hm) q.1 q.2 r.1 r.2.1 r.2.2) hvv
  · have q := nm_6 hn
    exact pOkL_mono (show pOk (sRem P 69 5 9 a.toNat) v from pf_6 H (by omega)) hvv
  · have q := nm_7 hn
    have r := rg_7.mp hr
    exact pOkL_mono (show pOk (sApp6 P (P 10).toNat a b x y (P 1 + y)) v from pf_7 H (rm_7 hm) (by rcases r.1 with h | h; exact Or.inl ⟨h, q h⟩; exact Or.inr h.1) r.2.1 r.2.2) hvv
  · have q := nm_8 hn
    exact pOkL_mono (show pOk (sRem P 99 6 10 a.toNat) v from pf_8 H (by omega)) hvv
  · have r := rg_9.mp hr
    exact pOkL_mono (show pOk (sSet (sInc P a).2) (v + 1) from pOkL_set (pOkL_inc H (by omega) (by omega)) (by omega)) (by omega)
  · have r := rg_10.mp hr
    have q := nmO.sp hn rfl
    have m := mnO.sp hmm rfl
    exact pOkL_mono (show pOk (sSet (sPay P a.toNat b)) v from pOkL_set (pOkL_pay H (by omega) (by omega) m) (by omega)) hvv
  · have r := rg_11.mp hr
    have q := nmO.mv hn rfl
    have m := mnO.mv hmm rfl
    exact pOkL_mono (show pOk (sSet (sMv P a b x)) v from pOkL_set (pOkL_mv H q.1 q.2 r.1 (by omega) m) (by omega)) hvv
  · have r := rg_12.mp hr
    exact pOkL_mono (show pOk (sDays P a.toNat) (v + 9 * (a.toNat : Nat)) from (pOk_days H a.toNat (by omega)).1) (by omega)
