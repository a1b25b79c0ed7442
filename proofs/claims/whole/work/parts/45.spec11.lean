theorem nm_1 {P : Nat → Int} {a b : Int} (h : nmO P 1 a b) : 0 ≤ a ∧ a < P 7 := by have h2 : nmP P 1 a b := h; omega
theorem nm_2 {P : Nat → Int} {a b : Int} (h : nmO P 2 a b) : 0 ≤ a ∧ a < P 7 := by have h2 : nmP P 2 a b := h; omega
theorem nm_3 {P : Nat → Int} {a b : Int} (h : nmO P 3 a b) : 0 ≤ b ∧ b < P 7 := by have h2 : nmP P 3 a b := h; omega
theorem nm_4 {P : Nat → Int} {a b : Int} (h : nmO P 4 a b) : 0 ≤ a ∧ a < P 8 := by have h2 : nmP P 4 a b := h; omega
theorem nm_5 {P : Nat → Int} {a b : Int} (h : nmO P 5 a b) : (0 ≤ a ∧ a < P 7) ∧ 0 ≤ b ∧ b < P 7 := by have h2 : nmP P 5 a b := h; omega
theorem nm_6 {P : Nat → Int} {a b : Int} (h : nmO P 6 a b) : 0 ≤ a ∧ a < P 9 := by have h2 : nmP P 6 a b := h; omega
theorem nm_7 {P : Nat → Int} {a b : Int} (h : nmO P 7 a b) : a = 1 → 0 ≤ b ∧ b < P 7 := by have h2 : nmP P 7 a b := h; omega
theorem nm_8 {P : Nat → Int} {a b : Int} (h : nmO P 8 a b) : 0 ≤ a ∧ a < P 10 := by have h2 : nmP P 8 a b := h; omega
def rmO (P : Nat → Int) (kd : Int) : Prop := rmP P kd
theorem rm_0 {P : Nat → Int} (h : rmO P 0) : P 7 < 10 := by have h2 : rmP P 0 := h; omega
theorem rm_3 {P : Nat → Int} (h : rmO P 3) : P 8 < 6 := by have h2 : rmP P 3 := h; omega
theorem rm_5 {P : Nat → Int} (h : rmO P 5) : P 9 < 6 := by have h2 : rmP P 5 := h; omega
theorem rm_7 {P : Nat → Int} (h : rmO P 7) : P 10 < 8 := by have h2 : rmP P 7 := h; omega
theorem rg_sp {kd a b x y : Int} (h : rgP kd a b x y) (hk : kd = 10) : 1 ≤ b ∧ b ≤ 1000000 := by subst hk; exact rg_10.mp h
def sTot (P : Nat → Int) (w : Nat) : Int := if w = 0 then P 0 else if w = 1 then bS P else if w = 2 then P 2 else if w = 3 then P 3 else if w = 4 then P 4 else if w = 5 then P 1 else if w = 6 then P 5 else if w = 7 then P 6 else P (w - 1)
theorem bS_cnt {P : Nat → Int} {n : Nat} (hn : n ≤ 10) (h : ∀ e, n ≤ e → e < 10 → P (11 + 4 * e) = 0) : sSum (fun k => P (11 + 4 * k)) n = bS P := by
  have key : ∀ d, n + d ≤ 10 → sSum (fun k => P (11 + 4 * k)) (n + d) = sSum (fun k => P (11 + 4 * k)) n := by
    intro d
    induction d with
    | zero => intro _; rfl
    | succ d ih =>
      intro hd
      show sSum (fun k => P (11 + 4 * k)) (n + d) + P (11 + 4 * (n + d)) = _
      rw [ih (by omega), h (n + d) (by omega) (by omega)]
      omega
  have := key (10 - n) (by omega)
  rw [show n + (10 - n) = 10 by omega] at this
  exact this.symm
