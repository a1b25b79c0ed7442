section GIO
variable {p : Program} {l : Launch} {e : Env} {R : Room} {s : State} {m : MethodId} {args : Array Value} {below : List Frame} {meth : Method} {c : Code} {H : Heap} {locs : List Loc} {cells slots : Nat} {Q : State → Prop}
variable {cc : ByteArray} {pc : Nat} {ls : Array Slot} {rest : List Value}
theorem g_iorL (hexec : p.tables.exec = Jvm.exec) (hb : c.code = cc) {z1 z2 z3 : Int} (hdg : decode cc pc = .ok (.ior, 1)) (hz : zI z1 ||| zI z2 = zI z3) (k : W p l e R s m args below meth c H locs cells slots Q (F0 m (pc + 1) ls (.int (zI z3) :: rest))) : W p l e R s m args below meth c H locs cells slots Q (F0 m pc ls (.int (zI z2) :: .int (zI z1) :: rest)) := by
  refine lv_ior hexec hb hdg ?_
  rw [hz]; exact k
end GIO
/-- the reader's numbers: how much was fed, where it is, whether it went wrong -/
def zR (Z : Nat → Int) (L a w : Int) : Nat → Int := pu (pu (pu Z 20 L) 21 a) 22 w
theorem sNum_1 {T : Nat → Int} {L a : Nat} : sNum T L 1 a 0 = if dg T L a then (a + 1, nx T L a - 48) else (a, 0) := by
  unfold sNum; split
  · unfold sNum; congr 1; omega
  · rfl
theorem sNum_st {T : Nat → Int} {L m a : Nat} {v : Int} (h : dg T L a) : sNum T L (m + 1) a v = sNum T L m (a + 1) (v * 10 + (nx T L a - 48)) := by
  conv => lhs; unfold sNum
  rw [if_pos h]
theorem sNum_lp {T : Nat → Int} {L mm a i : Nat} {v : Int} (hst : sNum T L mm a 0 = sNum T L (mm - i) (a + i) v) (hi : i < mm) (h : dg T L (a + i)) : sNum T L mm a 0 = sNum T L (mm - (i + 1)) (a + (i + 1)) (10 * v + nx T L (a + i) - 48) := by
  rw [hst, show mm - i = (mm - (i + 1)) + 1 by omega, sNum_st h, show v * 10 + (nx T L (a + i) - 48) = 10 * v + nx T L (a + i) - 48 by omega]
  rfl
theorem sNum1_y {T : Nat → Int} {L a : Nat} (h : a < (sNum T L 1 a 0).1) : dg T L a ∧ sNum T L 1 a 0 = (a + 1, nx T L a - 48) := by
  rw [sNum_1] at h ⊢
  by_cases hd : dg T L a
  · rw [if_pos hd]; exact ⟨hd, rfl⟩
  · rw [if_neg hd] at h; exact absurd h (Nat.lt_irrefl a)
theorem sNum1_n {T : Nat → Int} {L a : Nat} (h : (sNum T L 1 a 0).1 = a) : ¬ dg T L a := fun hd => by
  rw [sNum_1, if_pos hd] at h
  have h : a + 1 = a := h
  omega
theorem sNum_lo {T : Nat → Int} {L : Nat} : ∀ {m a : Nat} {v : Int}, a ≤ (sNum T L m a v).1 ∧ (sNum T L m a v).1 ≤ a + m ∧ ((sNum T L m a v).1 = a → (sNum T L m a v).2 = v) ∧ (0 < m → dg T L a → a < (sNum T L m a v).1) ∧ (¬ dg T L a → (sNum T L m a v).1 = a)
  | 0, a, v => ⟨Nat.le_refl a, Nat.le_refl a, fun _ => rfl, fun h => absurd h (Nat.lt_irrefl 0), fun _ => rfl⟩
  | m + 1, a, v => by
    have ih := sNum_lo (T := T) (L := L) (m := m) (a := a + 1) (v := v * 10 + (nx T L a - 48))
    unfold sNum
    split
    · rename_i hd
      exact ⟨by omega, by omega, fun h => by omega, fun _ _ => by omega, fun h => absurd hd h⟩
    · rename_i hd
      exact ⟨Nat.le_refl a, Nat.le_add_right a (m + 1), fun _ => rfl, fun _ h => absurd h hd, fun _ => rfl⟩
theorem sNum_L {T : Nat → Int} {L : Nat} : ∀ {m a : Nat} {v : Int}, a ≤ L → (sNum T L m a v).1 ≤ L
  | 0, a, v, h => h
  | m + 1, a, v, h => by
    unfold sNum
    split
    · rename_i hd
      exact sNum_L (nx_lt (T := T) (by have := hd.1; omega))
    · exact h
