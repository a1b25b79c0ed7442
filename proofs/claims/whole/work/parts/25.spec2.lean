/-- spending, that can be paid -/
def sPay (P : Nat → Int) (e : Nat) (a : Int) : Nat → Int :=
  let D := sDrain P e a
  pu (pu D 0 (D 0 - (a - min (P (11 + 4 * e)) a))) 3 (D 3 + a)
theorem pct_ok {o q : Int} (h0 : 0 ≤ o) (h1 : o ≤ 1000000000000000) (q0 : 0 ≤ q) (q1 : q ≤ 100) : rL (o * q) ∧ 0 ≤ (o * q).tdiv 100 ∧ (o * q).tdiv 100 ≤ o := by
  have a : 0 ≤ o * q := Int.mul_nonneg h0 q0
  have b : o * q ≤ o * 100 := Int.mul_le_mul_of_nonneg_left q1 h0
  rw [Int.tdiv_eq_ediv_of_nonneg a]
  exact ⟨⟨by omega, by omega⟩, by omega, by omega⟩
def sOver (P : Nat → Int) (k : Nat) : Int := P (11 + 4 * (P (69 + 5 * k)).toNat) - P (71 + 5 * k)
def sPass (P : Nat → Int) (k : Nat) : Int := sIs P (P (70 + 5 * k)).toNat ((sOver P k * P (72 + 5 * k)).tdiv 100)
/-- a link passes on what it can -/
def sLnk (P : Nat → Int) (k : Nat) : Nat → Int :=
  let s := 11 + 4 * (P (69 + 5 * k)).toNat
  let P1 := sPut P (P (70 + 5 * k)).toNat ((sOver P k * P (72 + 5 * k)).tdiv 100)
  let P2 := pu P1 s (P1 s - sPass P k)
  pu (pu P2 (73 + 5 * k) (P2 (73 + 5 * k) + sPass P k)) 5 (P2 5 + sPass P k)
/-- moving: how much, the plan -/
def sMvN (P : Nat → Int) (to a : Int) : Int := if to = -1 then a else sIs P to.toNat a
def sMv (P : Nat → Int) (fr to a : Int) : Nat → Int :=
  let i := sMvN P to a
  let P1 := if to = -1 then pu P 0 (P 0 + a) else sPut P to.toNat a
  if fr = -1 then pu P1 0 (P1 0 - i) else pu P1 (11 + 4 * fr.toNat) (P1 (11 + 4 * fr.toNat) - i)
theorem sIs_le {P : Nat → Int} {e : Nat} {a : Int} (h : 0 ≤ a) : 0 ≤ sIs P e a ∧ sIs P e a ≤ a := by
  unfold sIs; split <;> omega
