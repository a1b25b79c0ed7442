def sSum (A : Nat → Int) : Nat → Int
  | 0 => 0
  | n + 1 => sSum A n + A n
section GY
variable {p : Program} {l : Launch} {e : Env} {R : Room} {s : State} {m : MethodId} {args : Array Value} {below : List Frame} {meth : Method} {c : Code} {H : Heap} {locs : List Loc} {cells slots : Nat} {Q : State → Prop}
variable {cc : ByteArray} {pc : Nat} {ls : Array Slot} {rest : List Value} {g : gE} {b0 n a : Nat} {f : gF} {H0 : Heap}
theorem g_copyI (hexec : p.tables.exec = Jvm.exec) (hb : c.code = cc) (hml : c.maxLocals = ls.size) {own : String} {index : Nat} (hown : s.vm.findClass own = some m.cls) (hlink : (Cond.methodLink own index arraycopyName).before args s = true) (hts : ∀ w ∈ wU, w.before args s = true) (hK : va_K g.1 vwCl (gT g) s) (hM : gH g b0 n f H0 H locs) {a0 N : Nat} {A B : Nat → Int} (ha0 : b0 ≤ a0 ∧ a0 < b0 + n) (ha : b0 ≤ a ∧ a < b0 + n) (hA : arI g f a0 N A) (hB : arI g f a N B) {z : Int} (hz : z = N) (hN : N < 2147483648) (hframes : 1 ≤ R.frames) (hlocals : (rest.map fun v => v.category).sum + (nativeFrameWords "java/lang/System" "arraycopy" 5 + 11) ≤ R.locals) (hdg : decode cc pc = .ok (.invokestatic index, 3))
    (kk : ∀ (f1 : gF) (H1 : Heap) (locs1 : List Loc), gH g b0 n f1 H0 H1 locs1 → arI g f1 a N A → (∀ q, q ≠ a → f1 q = f q) → W p l e R s m args below meth c H1 locs1 cells slots Q (F0 m (pc + 3) ls rest)) : W p l e R s m args below meth c H locs cells slots Q (F0 m pc ls (.int (zI z) :: .int (zI 0) :: .ref a :: .int (zI 0) :: .ref a0 :: rest)) := by
  obtain ⟨q0, hq0⟩ := gM_at f ha0
  obtain ⟨q1, hq1⟩ := gM_at f ha
  obtain ⟨A', hA1, hA2⟩ := hA
  obtain ⟨B', hB1, hB2⟩ := hB
  have hq2 := hq1
  rw [hA1] at hq0
  rw [hB1] at hq2
  subst hz
  have hcl : (zI (N : Int)).toNatClampNeg = N := by rw [zI_clamp (by omega) (by omega)]; rfl
  have hc0 : (zI 0).toNatClampNeg = 0 := by rw [zI_clamp (by omega) (by omega)]; rfl
  have hn0 : ¬ zI 0 < 0 := by decide
  have hnN : ¬ zI (N : Int) < 0 := by rw [zI_0, zI_lt ⟨by omega, by omega⟩ rI_0]; omega
  refine va_copyi hexec hb hml hown hlink (hts _ u_568) (hts _ u_567) (hts _ u_20) hK hM.1 (gD b0 n f) hM.2 q0 q1 1 1 (ty := .int) hq0 hq2 rfl rfl rfl hn0 hn0 hnN (by rw [hcl, hc0]; omega) (by rw [hcl, hc0]; omega) (fun i _ => rfl) hframes hlocals hdg (fun H1 locs1 hP _ hS => kk _ H1 locs1 ⟨gM_up ha hq1 hP, hS⟩ ⟨_, va_up_self _ _ _, fun k hk => ?_⟩ (fun q hne => va_up_ne _ _ hne))
  rw [hcl, hc0]
  simp only [va_cpy, Nat.zero_le, Nat.zero_add, true_and, Nat.sub_zero, if_pos hk]
  exact hA2 k hk
theorem g_copyJ (hexec : p.tables.exec = Jvm.exec) (hb : c.code = cc) (hml : c.maxLocals = ls.size) {own : String} {index : Nat} (hown : s.vm.findClass own = some m.cls) (hlink : (Cond.methodLink own index arraycopyName).before args s = true) (hts : ∀ w ∈ wU, w.before args s = true) (hK : va_K g.1 vwCl (gT g) s) (hM : gH g b0 n f H0 H locs) {a0 N : Nat} {A B : Nat → Int} (ha0 : b0 ≤ a0 ∧ a0 < b0 + n) (ha : b0 ≤ a ∧ a < b0 + n) (hA : arJ g f a0 N A) (hB : arJ g f a N B) {z : Int} (hz : z = N) (hN : N < 2147483648) (hframes : 1 ≤ R.frames) (hlocals : (rest.map fun v => v.category).sum + (nativeFrameWords "java/lang/System" "arraycopy" 5 + 11) ≤ R.locals) (hdg : decode cc pc = .ok (.invokestatic index, 3))
    (kk : ∀ (f1 : gF) (H1 : Heap) (locs1 : List Loc), gH g b0 n f1 H0 H1 locs1 → arJ g f1 a N A → (∀ q, q ≠ a → f1 q = f q) → W p l e R s m args below meth c H1 locs1 cells slots Q (F0 m (pc + 3) ls rest)) : W p l e R s m args below meth c H locs cells slots Q (F0 m pc ls (.int (zI z) :: .int (zI 0) :: .ref a :: .int (zI 0) :: .ref a0 :: rest)) := by
  obtain ⟨q0, hq0⟩ := gM_at f ha0
  obtain ⟨q1, hq1⟩ := gM_at f ha
  obtain ⟨A', hA1, hA2⟩ := hA
  obtain ⟨B', hB1, hB2⟩ := hB
  have hq2 := hq1
  rw [hA1] at hq0
  rw [hB1] at hq2
  subst hz
  have hcl : (zI (N : Int)).toNatClampNeg = N := by rw [zI_clamp (by omega) (by omega)]; rfl
  have hc0 : (zI 0).toNatClampNeg = 0 := by rw [zI_clamp (by omega) (by omega)]; rfl
  have hn0 : ¬ zI 0 < 0 := by decide
  have hnN : ¬ zI (N : Int) < 0 := by rw [zI_0, zI_lt ⟨by omega, by omega⟩ rI_0]; omega
  refine va_copyl hexec hb hml hown hlink (hts _ u_568) (hts _ u_567) (hts _ u_20) hK hM.1 (gD b0 n f) hM.2 q0 q1 2 2 (ty := .long) hq0 hq2 rfl rfl rfl hn0 hn0 hnN (by rw [hcl, hc0]; omega) (by rw [hcl, hc0]; omega) (fun i _ => rfl) hframes hlocals hdg (fun H1 locs1 hP _ hS => kk _ H1 locs1 ⟨gM_up ha hq1 hP, hS⟩ ⟨_, va_up_self _ _ _, fun k hk => ?_⟩ (fun q hne => va_up_ne _ _ hne))
  rw [hcl, hc0]
  simp only [va_cpy, Nat.zero_le, Nat.zero_add, true_and, Nat.sub_zero, if_pos hk]
  exact hA2 k hk
theorem g_lmax (hexec : p.tables.exec = Jvm.exec) (hb : c.code = cc) (hml : c.maxLocals = ls.size) {own : String} {index : Nat} (hown : s.vm.findClass own = some m.cls) (hlink : (Cond.methodLink own index Lib.MathLoose.max_long.x).before args s = true) (hts : ∀ w ∈ wU, w.before args s = true) (hframes : 1 ≤ R.frames) (hlocals : (rest.map fun v => v.category).sum + 15 ≤ R.locals) (hc : cells ≤ R.cells) (hs : slots ≤ R.slots) {x y : Int} (hx : rL x) (hy : rL y) (hdg : decode cc pc = .ok (.invokestatic index, 3))
    (kk : W p l e R s m args below meth c H locs cells slots Q (F0 m (pc + 3) ls (.long (zL (max x y)) :: rest))) : W p l e R s m args below meth c H locs cells slots Q (F0 m pc ls (.long (zL y) :: .long (zL x) :: rest)) := by
  refine va_mmax_long hexec hb hml hown hlink (hts _ u_834) (hts _ u_17) (hts _ u_835) hframes hlocals hc hs hdg ?_
  simp only [zL_lt hy hx]
  have e : (if y < x then zL x else zL y) = zL (max x y) := by
    split
    · congr 1; omega
    · congr 1; omega
  rw [e]
  exact kk
theorem g_lmin (hexec : p.tables.exec = Jvm.exec) (hb : c.code = cc) (hml : c.maxLocals = ls.size) {own : String} {index : Nat} (hown : s.vm.findClass own = some m.cls) (hlink : (Cond.methodLink own index Lib.MathLoose.min_long.x).before args s = true) (hts : ∀ w ∈ wU, w.before args s = true) (hframes : 1 ≤ R.frames) (hlocals : (rest.map fun v => v.category).sum + 15 ≤ R.locals) (hc : cells ≤ R.cells) (hs : slots ≤ R.slots) {x y : Int} (hx : rL x) (hy : rL y) (hdg : decode cc pc = .ok (.invokestatic index, 3))
    (kk : W p l e R s m args below meth c H locs cells slots Q (F0 m (pc + 3) ls (.long (zL (min x y)) :: rest))) : W p l e R s m args below meth c H locs cells slots Q (F0 m pc ls (.long (zL y) :: .long (zL x) :: rest)) := by
  refine va_mmin_long hexec hb hml hown hlink (hts _ u_932) (hts _ u_17) (hts _ u_933) hframes hlocals hc hs hdg ?_
  simp only [zL_lt hy hx]
  have e : (if y < x then zL y else zL x) = zL (min x y) := by
    split
    · congr 1; omega
    · congr 1; omega
  rw [e]
  exact kk
end GY
def sMon (P : Nat → Int) (x : Int) : Int := if x = -1 then P 0 else P (11 + 4 * x.toNat)
def sNumE (P : Nat → Int) (e w : Nat) : Int := if w = 3 then (if P (12 + 4 * e) < 0 then -1 else max 0 (P (12 + 4 * e) - P (11 + 4 * e))) else P (11 + 4 * e + if w = 4 then 3 else w)
def shA (P : Nat → Int) (o w rm i : Nat) (k : Nat) : Int := if rm ≤ k ∧ k < i then P (o + w * (k + 1)) else P (o + w * k)
/-- the row e of a table taken out: the later rows move down, the count falls -/
def sRem (P : Nat → Int) (o w c e : Nat) : Nat → Int := fun j => if j = c then P c - 1 else if o + w * e ≤ j ∧ (j : Int) < o + w * (P c - 1) then P (j + w) else P j
def sApp3 (P : Nat → Int) (k : Nat) (a b c : Int) : Nat → Int := pu (pu (pu (pu P (51 + 3 * k) a) (52 + 3 * k) b) (53 + 3 * k) c) 8 (k + 1)
def sApp5 (P : Nat → Int) (k : Nat) (a b c d : Int) : Nat → Int := pu (pu (pu (pu (pu (pu P (69 + 5 * k) a) (70 + 5 * k) b) (71 + 5 * k) c) (72 + 5 * k) d) (73 + 5 * k) 0) 9 (k + 1)
def sApp6 (P : Nat → Int) (k : Nat) (a b c d u : Int) : Nat → Int := pu (pu (pu (pu (pu (pu (pu P (99 + 6 * k) a) (100 + 6 * k) b) (101 + 6 * k) c) (102 + 6 * k) d) (103 + 6 * k) u) (104 + 6 * k) 0) 10 (k + 1)
