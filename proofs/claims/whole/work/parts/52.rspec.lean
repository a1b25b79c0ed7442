/-! the reader: its text T (L characters fed), the commands C, how many, where it is, the number last read -/
def rdAt (g : gE) (f : gF) (h : Nat) (T : Nat → Int) (C : Nat → Int) (L cnt a nm : Int) : Prop :=
  f h = .inr (8, [.ref (h + 1), .ref (h + 2), .int (zI L), .int (zI cnt), .int (zI a), .int (zI nm)]) ∧ arC g f (h + 1) 60 T ∧ arI g f (h + 2) 120 C
theorem rdAt.kept {g : gE} {f f1 : gF} {h : Nat} {T C : Nat → Int} {L cnt a nm : Int} (H : rdAt g f h T C L cnt a nm) (e : ∀ q, h ≤ q → q < h + 3 → f1 q = f q) : rdAt g f1 h T C L cnt a nm := by
  obtain ⟨h0, h1, h2⟩ := H
  exact ⟨(e _ (by omega) (by omega)).trans h0, h1.kept (e _ (by omega) (by omega)), h2.kept (e _ (by omega) (by omega))⟩
/-- every character is one -/
def txOk (T : Nat → Int) : Prop := ∀ k, 0 ≤ T k ∧ T k < 65536
/-- the character at hand, or -1 -/
def nx (T : Nat → Int) (L a : Nat) : Int := if a < L then T a else -1
theorem nx_in {T : Nat → Int} {L a : Nat} (H : txOk T) : -1 ≤ nx T L a ∧ nx T L a < 65536 := by
  have := H a
  unfold nx; split <;> omega
theorem nx_lt {T : Nat → Int} {L a : Nat} (h : 0 ≤ nx T L a) : a < L := by
  unfold nx at h; split at h <;> omega
abbrev dg (T : Nat → Int) (L a : Nat) : Prop := 48 ≤ nx T L a ∧ nx T L a ≤ 57
/-- digits read: where they end, the number -/
def sNum (T : Nat → Int) (L : Nat) : Nat → Nat → Int → Nat × Int
  | 0, a, v => (a, v)
  | m + 1, a, v => if dg T L a then sNum T L m (a + 1) (v * 10 + (nx T L a - 48)) else (a, v)
/-- what reading a command comes to: is it good, where it ends, its parts -/
abbrev rdT : Type := Bool × Nat × Int × Int × Int × Int
def sNb (T : Nat → Int) (L : Nat) (kd : Int) (a : Nat) : rdT := let q := sNum T L 7 a 0; (decide (a < q.1), q.1, kd, q.2, 0, 0)
def sSp (T : Nat → Int) (L : Nat) (a : Nat) : rdT :=
  if dg T L a then (if nx T L (a + 1) = 58 then let q := sNum T L 7 (a + 2) 0; (decide (a + 2 < q.1), q.1, 10, nx T L a - 48, q.2, 0) else (false, a + 1, 0, 0, 0, 0)) else (false, a, 0, 0, 0, 0)
/-- a place: is it good, its number -/
abbrev plG (T : Nat → Int) (L a : Nat) : Prop := nx T L a = 112 ∨ dg T L a
def plV (T : Nat → Int) (L a : Nat) : Int := if nx T L a = 112 then -1 else nx T L a - 48
def sMo (T : Nat → Int) (L : Nat) (a : Nat) : rdT :=
  if plG T L a then (if nx T L (a + 1) = 62 then (if plG T L (a + 2) then (if nx T L (a + 3) = 58 then let q := sNum T L 7 (a + 4) 0; (decide (a + 4 < q.1), q.1, 11, plV T L a, plV T L (a + 2), q.2) else (false, a + 3, 0, 0, 0, 0)) else (false, a + 2, 0, 0, 0, 0)) else (false, a + 1, 0, 0, 0, 0)) else (false, a, 0, 0, 0, 0)
def sCmd (T : Nat → Int) (L : Nat) (a : Nat) : rdT :=
  if nx T L a = 110 then (true, a + 1, 0, -1, 0, 0) else if nx T L a = 114 then sNb T L 9 (a + 1) else if nx T L a = 115 then sSp T L (a + 1) else if nx T L a = 109 then sMo T L (a + 1) else if nx T L a = 100 then sNb T L 12 (a + 1) else (false, a, 0, 0, 0, 0)
/-- a command laid at place k -/
def kp (C : Nat → Int) (k : Nat) (a b x y : Int) : Nat → Int := pu (pu (pu (pu C (k * 4) a) (k * 4 + 1) b) (k * 4 + 2) x) (k * 4 + 3) y
theorem sNum_in {T : Nat → Int} {L : Nat} (hL : L ≤ 60) : ∀ {m a : Nat} {v : Int}, a ≤ L → 0 ≤ v → (v + 1) * 10 ^ m ≤ 10000000 → a ≤ (sNum T L m a v).1 ∧ (sNum T L m a v).1 ≤ L ∧ 0 ≤ (sNum T L m a v).2 ∧ (sNum T L m a v).2 < 10000000
  | 0, a, v, h, h0, h1 => by
    rw [show (10 : Int) ^ 0 = 1 from rfl] at h1
    exact ⟨Nat.le_refl a, h, h0, by show v < 10000000; omega⟩
  | m + 1, a, v, h, h0, h1 => by
    unfold sNum
    have hp : (1 : Int) ≤ 10 ^ m := Int.pow_pos (by omega)
    rw [Int.pow_succ] at h1
    split
    · rename_i hd
      have hlt := nx_lt (T := T) (L := L) (a := a) (by have := hd.1; omega)
      have hd1 := hd.1
      have hd2 := hd.2
      have hm : (v * 10 + (nx T L a - 48) + 1) * 10 ^ m ≤ (v + 1) * (10 ^ m * 10) := by
        rw [← Int.mul_assoc, Int.mul_right_comm]
        exact Int.mul_le_mul_of_nonneg_right (by omega) (by omega)
      have r := sNum_in (T := T) hL (m := m) (a := a + 1) (v := v * 10 + (nx T L a - 48)) (by omega) (by omega) (by omega)
      omega
    · refine ⟨Nat.le_refl a, h, h0, ?_⟩
      have hm : (v + 1) * 1 ≤ (v + 1) * (10 ^ m * 10) := Int.mul_le_mul_of_nonneg_left (by omega) (by omega)
      show v < 10000000
      omega
theorem sNum_7 {T : Nat → Int} {L a : Nat} (hL : L ≤ 60) (h : a ≤ L) : a ≤ (sNum T L 7 a 0).1 ∧ (sNum T L 7 a 0).1 ≤ L ∧ 0 ≤ (sNum T L 7 a 0).2 ∧ (sNum T L 7 a 0).2 < 10000000 := sNum_in hL h (by omega) (by decide)
theorem nar_c {v : Int} (h0 : 0 ≤ v) (h1 : v < 65536) : vp_nar .char (zI v) = zI v := by
  obtain ⟨k, rfl⟩ := Int.eq_ofNat_of_zero_le h0
  rw [vp_nar_char]
  apply Int32.toBitVec_inj.mp
  apply BitVec.eq_of_toNat_eq
  have hk : (zI (k : Int)).toBitVec.toNat = k := by
    show (BitVec.ofInt 32 k).toNat = k
    rw [BitVec.toNat_ofInt]
    omega
  show (((zI (k : Int)).toBitVec.setWidth 16).setWidth 32).toNat = _
  rw [BitVec.toNat_setWidth, BitVec.toNat_setWidth, hk]
  omega
section GRD
variable {p : Program} {l : Launch} {e : Env} {R : Room} {s : State} {m : MethodId} {args : Array Value} {below : List Frame} {meth : Method} {c : Code} {H : Heap} {locs : List Loc} {cells slots : Nat} {Q : State → Prop}
variable {cc : ByteArray} {pc : Nat} {ls : Array Slot} {rest : List Value} {g : gE} {b0 n a : Nat} {f : gF} {H0 : Heap}
theorem g_cast (hexec : p.tables.exec = Jvm.exec) (hb : c.code = cc) (hK : va_K g.1 vwCl (gT g) s) (hM : gH g b0 n f H0 H locs) (ha : b0 ≤ a ∧ a < b0 + n) {N : Nat} {A : Nat → Int} (hA : arC g f a N A) {z v : Int} (hv0 : 0 ≤ v) (hv1 : v < 65536) (h0 : 0 ≤ z) (h1 : z < N) (hN : N < 2147483648) (hdg : decode cc pc = .ok (.castore, 1))
    (kk : ∀ (f1 : gF) (H1 : Heap) (locs1 : List Loc), gH g b0 n f1 H0 H1 locs1 → arC g f1 a N (pu A z.toNat v) → (∀ q, q ≠ a → f1 q = f q) → W p l e R s m args below meth c H1 locs1 cells slots Q (F0 m (pc + 1) ls rest)) : W p l e R s m args below meth c H locs cells slots Q (F0 m pc ls (.int (zI v) :: .int (zI z) :: .ref a :: rest)) := by
  obtain ⟨q0, hq⟩ := gM_at f ha
  obtain ⟨B, hB, hv⟩ := hA
  have hq2 := hq
  rw [hB] at hq2
  refine va_cast hexec hb hK hM.1 (gD b0 n f) hM.2 q0 0 hq2 rfl (zI_in h0 h1 hN) hdg (fun H1 locs1 hP _ hS => kk _ H1 locs1 ⟨gM_up ha hq hP, hS⟩ ⟨_, va_up_self _ _ _, fun k hk => ?_⟩ (fun q hne => va_up_ne _ _ hne))
  rw [zI_clamp h0 (by omega), nar_c hv0 hv1]
  by_cases e : k = z.toNat
  · subst e; simp [upd, vp_updL, pu]
  · simp [upd, vp_updL, pu, e, hv k hk]
theorem g_zast (hexec : p.tables.exec = Jvm.exec) (hb : c.code = cc) (hK : va_K g.1 vwCl (gT g) s) (hM : gH g b0 n f H0 H locs) (ha : b0 ≤ a ∧ a < b0 + n) {N : Nat} {A : Nat → Int} (hA : arZ g f a N A) {z v : Int} (hv0 : v = 0 ∨ v = 1) (h0 : 0 ≤ z) (h1 : z < N) (hN : N < 2147483648) (hdg : decode cc pc = .ok (.bastore, 1))
    (kk : ∀ (f1 : gF) (H1 : Heap) (locs1 : List Loc), gH g b0 n f1 H0 H1 locs1 → arZ g f1 a N (pu A z.toNat v) → (∀ q, q ≠ a → f1 q = f q) → W p l e R s m args below meth c H1 locs1 cells slots Q (F0 m (pc + 1) ls rest)) : W p l e R s m args below meth c H locs cells slots Q (F0 m pc ls (.int (zI v) :: .int (zI z) :: .ref a :: rest)) := by
  obtain ⟨q0, hq⟩ := gM_at f ha
  obtain ⟨B, hB, hv⟩ := hA
  have hq2 := hq
  rw [hB] at hq2
  have hn : vp_nar .boolean (zI v) = zI v := by rcases hv0 with h | h <;> subst h <;> rfl
  refine va_zast hexec hb hK hM.1 (gD b0 n f) hM.2 q0 3 hq2 rfl (zI_in h0 h1 hN) hdg (fun H1 locs1 hP _ hS => kk _ H1 locs1 ⟨gM_up ha hq hP, hS⟩ ⟨_, va_up_self _ _ _, fun k hk => ?_⟩ (fun q hne => va_up_ne _ _ hne))
  rw [zI_clamp h0 (by omega), hn]
  by_cases e : k = z.toNat
  · subst e; simp [upd, vp_updL, pu]
  · simp [upd, vp_updL, pu, e, hv k hk]
end GRD
