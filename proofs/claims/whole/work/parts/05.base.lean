/-! numbers: whole numbers as the machine's ints and longs -/
def zI (z : Int) : Int32 := Int32.ofInt z
def zL (z : Int) : Int64 := Int64.ofInt z
def bI (c : Prop) [Decidable c] : Int32 := if c then 1 else 0
theorem bI_t {c : Prop} [Decidable c] (h : c) : bI c = 1 := if_pos h
theorem bI_f {c : Prop} [Decidable c] (h : ¬ c) : bI c = 0 := if_neg h
theorem zI_add (a b : Int) : zI a + zI b = zI (a + b) := (Int32.ofInt_add a b).symm
theorem zI_sub (a b : Int) : zI a - zI b = zI (a - b) := (Int32.ofInt_sub a b).symm
theorem zI_mul (a b : Int) : zI a * zI b = zI (a * b) := (Int32.ofInt_mul a b).symm
theorem zI_neg (a : Int) : - zI a = zI (-a) := (Int32.ofInt_neg a).symm
theorem zL_add (a b : Int) : zL a + zL b = zL (a + b) := (Int64.ofInt_add a b).symm
theorem zL_sub (a b : Int) : zL a - zL b = zL (a - b) := (Int64.ofInt_sub a b).symm
theorem zL_mul (a b : Int) : zL a * zL b = zL (a * b) := (Int64.ofInt_mul a b).symm
theorem zL_neg (a : Int) : - zL a = zL (-a) := (Int64.ofInt_neg a).symm
abbrev rI (z : Int) : Prop := -2147483648 ≤ z ∧ z < 2147483648
abbrev rL (z : Int) : Prop := -9223372036854775808 ≤ z ∧ z < 9223372036854775808
theorem rI_of {z : Int} (h1 : -2147483648 ≤ z) (h2 : z < 2147483648) : rI z := ⟨h1, h2⟩
theorem rL_of {z : Int} (h1 : -9223372036854775808 ≤ z) (h2 : z < 9223372036854775808) : rL z := ⟨h1, h2⟩
theorem zI_toInt {z : Int} (h : rI z) : (zI z).toInt = z := Int32.toInt_ofInt_of_le h.1 h.2
theorem zL_toInt {z : Int} (h : rL z) : (zL z).toInt = z := Int64.toInt_ofInt_of_le h.1 h.2
theorem zI_self (x : Int32) : zI x.toInt = x := Int32.ofInt_toInt x
theorem zL_self (x : Int64) : zL x.toInt = x := Int64.ofInt_toInt x
theorem rI_self (x : Int32) : rI x.toInt := ⟨Int32.le_toInt x, Int32.toInt_lt x⟩
theorem zI_lt {a b : Int} (ha : rI a) (hb : rI b) : zI a < zI b ↔ a < b := by rw [Int32.lt_iff_toInt_lt, zI_toInt ha, zI_toInt hb]
theorem zI_le {a b : Int} (ha : rI a) (hb : rI b) : zI a ≤ zI b ↔ a ≤ b := by rw [Int32.le_iff_toInt_le, zI_toInt ha, zI_toInt hb]
theorem zI_eq {a b : Int} (ha : rI a) (hb : rI b) : zI a = zI b ↔ a = b := by rw [← Int32.toInt_inj, zI_toInt ha, zI_toInt hb]
theorem zL_lt {a b : Int} (ha : rL a) (hb : rL b) : zL a < zL b ↔ a < b := by rw [Int64.lt_iff_toInt_lt, zL_toInt ha, zL_toInt hb]
theorem zL_le {a b : Int} (ha : rL a) (hb : rL b) : zL a ≤ zL b ↔ a ≤ b := by rw [Int64.le_iff_toInt_le, zL_toInt ha, zL_toInt hb]
theorem zL_eq {a b : Int} (ha : rL a) (hb : rL b) : zL a = zL b ↔ a = b := by rw [← Int64.toInt_inj, zL_toInt ha, zL_toInt hb]
theorem rI_0 : rI 0 := by decide
theorem rL_0 : rL 0 := by decide
theorem zI_0 : (0 : Int32) = zI 0 := by decide
theorem zL_0 : (0 : Int64) = zL 0 := by decide
theorem zI_eq0 {a : Int} (ha : rI a) : zI a = 0 ↔ a = 0 := by rw [zI_0]; exact zI_eq ha rI_0
theorem rI_L {a : Int} (h : rI a) : rL a := ⟨by have := h.1; omega, by have := h.2; omega⟩
theorem zI_l {z : Int} (h : rI z) : (zI z).toInt64 = zL z := by
  rw [← Int64.toInt_inj, Int32.toInt_toInt64, zI_toInt h, zL_toInt (rI_L h)]
theorem zL_i (z : Int) : (zL z).toInt32 = zI z := Int64.toInt32_ofInt
theorem zI_clamp {z : Int} (h0 : 0 ≤ z) (h1 : z < 2147483648) : (zI z).toNatClampNeg = z.toNat := by
  rw [← Int32.toNat_toInt, zI_toInt ⟨by omega, h1⟩]
theorem zI_in {z : Int} {N : Nat} (h0 : 0 ≤ z) (h1 : z < N) (hN : N < 2147483648) : vp_in (zI z) N := by
  have hr : rI z := ⟨by omega, by omega⟩
  rw [vp_in_iff, zI_toInt hr]
  exact ⟨h0, h1⟩
theorem zL_div {a b : Int} (ha : rL a) (hb : rL b) (h : 0 < b) : zL a / zL b = zL (a.tdiv b) := by
  have hne : zL b ≠ -1 := by
    intro h2
    have : (zL b).toInt = (-1 : Int64).toInt := by rw [h2]
    rw [zL_toInt hb] at this
    have h3 : (-1 : Int64).toInt = -1 := by decide
    omega
  rw [← zL_self (zL a / zL b), Int64.toInt_div_of_ne_right _ _ hne, zL_toInt ha, zL_toInt hb]
theorem zL_ne0 {b : Int} (hb : rL b) (h : b ≠ 0) : ¬ zL b = 0 := by
  rw [zL_0, zL_eq hb rL_0]; exact h
theorem zI_ne0 {b : Int} (hb : rI b) (h : b ≠ 0) : ¬ zI b = 0 := by
  rw [zI_0, zI_eq hb rI_0]; exact h
theorem zI_div {a b : Int} (ha : rI a) (hb : rI b) (h : 0 < b) : zI a / zI b = zI (a.tdiv b) := by
  have hne : zI b ≠ -1 := by
    intro h2
    have : (zI b).toInt = (-1 : Int32).toInt := by rw [h2]
    rw [zI_toInt hb] at this
    have h3 : (-1 : Int32).toInt = -1 := by decide
    omega
  rw [← zI_self (zI a / zI b), Int32.toInt_div_of_ne_right _ _ hne, zI_toInt ha, zI_toInt hb]
theorem zI_rem {a b : Int} (ha : rI a) (hb : rI b) (h : 0 < b) : zI a - zI a / zI b * zI b = zI (a.tmod b) := by
  rw [zI_div ha hb h, zI_mul, zI_sub, Int.tmod_def, Int.mul_comm b]
theorem zL_rem {a b : Int} (ha : rL a) (hb : rL b) (h : 0 < b) : zL a - zL a / zL b * zL b = zL (a.tmod b) := by
  rw [zL_div ha hb h, zL_mul, zL_sub, Int.tmod_def, Int.mul_comm b]
/-! the memory: what each cell from b0 on holds, n cells -/
abbrev gE : Type := va_G × (Nat → ClassId)
abbrev gF : Type := Nat → va_E
abbrev gT (g : gE) : List (ClassId × FieldType) := [(g.2 0, .char), (g.2 1, .int), (g.2 2, .long), (g.2 3, .boolean), (g.2 4, .object "EnvelopePlanner$Branch"), (g.2 5, .double)]
def gM (g : gE) (b0 n : Nat) (f : gF) (H : Heap) : Prop := va_P g.1 vwCl (va_pl (List.range' b0 n) f) H
def gA (b0 : Nat) : Nat → Prop := fun q => b0 ≤ q
def gH (g : gE) (b0 n : Nat) (f : gF) (H0 H : Heap) (locs : List Loc) : Prop := gM g b0 n f H ∧ va_S (gA b0) H0 H locs
def gB (g : gE) (b0 n : Nat) (f : gF) (U : State) : Prop := gM g b0 n f U.heap ∧ va_K g.1 vwCl (gT g) U
theorem gD (b0 n : Nat) (f : gF) : va_D (gA b0) (va_pl (List.range' b0 n) f) := by
  refine ⟨fun i j p q hi hj hpq => ?_, fun k q hk => ?_⟩
  · simp only [va_pl, List.getElem?_map, Option.map_eq_some_iff] at hi hj
    obtain ⟨a, ha, rfl⟩ := hi
    obtain ⟨b, hb, rfl⟩ := hj
    have e : a = b := hpq
    subst e
    have h1 := (List.getElem?_eq_some_iff.mp ha)
    have h2 := (List.getElem?_eq_some_iff.mp hb)
    obtain ⟨l1, e1⟩ := h1
    obtain ⟨l2, e2⟩ := h2
    rw [List.getElem_range'] at e1 e2
    omega
  · simp only [va_pl, List.getElem?_map, Option.map_eq_some_iff] at hk
    obtain ⟨a, ha, rfl⟩ := hk
    have := List.mem_of_getElem? ha
    rw [List.mem_range'_1] at this
    exact this.1
theorem gM_at {b0 n a : Nat} (f : gF) (ha : b0 ≤ a ∧ a < b0 + n) : ∃ k : Nat, (va_pl (List.range' b0 n) f)[k]? = some (a, f a) :=
  va_pl_get (X := []) (f := f) (List.mem_range'_1.mpr ha)
theorem gM_up {g : gE} {b0 n a k : Nat} {f : gF} {e : va_E} {H1 : Heap} (ha : b0 ≤ a ∧ a < b0 + n) (hk : (va_pl (List.range' b0 n) f)[k]? = some (a, f a)) (h : va_P g.1 vwCl ((va_pl (List.range' b0 n) f).set k (a, e)) H1) : gM g b0 n (va_up f a e) H1 := by
  have := va_pl_set (X := []) (e := e) (gD b0 n f) (List.mem_range'_1.mpr ha) hk
  simp only [List.nil_append] at this
  rw [this] at h
  exact h
def arI (g : gE) (f : gF) (a n : Nat) (A : Nat → Int) : Prop := ∃ B : Nat → Int32, f a = .inl (g.2 1, n, .inl B) ∧ ∀ k, k < n → B k = zI (A k)
def arC (g : gE) (f : gF) (a n : Nat) (A : Nat → Int) : Prop := ∃ B : Nat → Int32, f a = .inl (g.2 0, n, .inl B) ∧ ∀ k, k < n → B k = zI (A k)
def arZ (g : gE) (f : gF) (a n : Nat) (A : Nat → Int) : Prop := ∃ B : Nat → Int32, f a = .inl (g.2 3, n, .inl B) ∧ ∀ k, k < n → B k = zI (A k)
def arJ (g : gE) (f : gF) (a n : Nat) (A : Nat → Int) : Prop := ∃ B : Nat → Int64, f a = .inl (g.2 2, n, .inr (.inl B)) ∧ ∀ k, k < n → B k = zL (A k)
def arB (g : gE) (f : gF) (a n : Nat) (A : Nat → Option Nat) : Prop := ∃ B : Nat → Option Nat, f a = .inl (g.2 4, n, .inr (.inr (.inr (.inr B)))) ∧ ∀ k, k < n → B k = A k
theorem arI.kept {g : gE} {f f' : gF} {a n : Nat} {A : Nat → Int} (h : arI g f a n A) (e : f' a = f a) : arI g f' a n A := by obtain ⟨B, h1, h2⟩ := h; exact ⟨B, e.trans h1, h2⟩
theorem arC.kept {g : gE} {f f' : gF} {a n : Nat} {A : Nat → Int} (h : arC g f a n A) (e : f' a = f a) : arC g f' a n A := by obtain ⟨B, h1, h2⟩ := h; exact ⟨B, e.trans h1, h2⟩
theorem arZ.kept {g : gE} {f f' : gF} {a n : Nat} {A : Nat → Int} (h : arZ g f a n A) (e : f' a = f a) : arZ g f' a n A := by obtain ⟨B, h1, h2⟩ := h; exact ⟨B, e.trans h1, h2⟩
theorem arJ.kept {g : gE} {f f' : gF} {a n : Nat} {A : Nat → Int} (h : arJ g f a n A) (e : f' a = f a) : arJ g f' a n A := by obtain ⟨B, h1, h2⟩ := h; exact ⟨B, e.trans h1, h2⟩
theorem arB.kept {g : gE} {f f' : gF} {a n : Nat} {A : Nat → Option Nat} (h : arB g f a n A) (e : f' a = f a) : arB g f' a n A := by obtain ⟨B, h1, h2⟩ := h; exact ⟨B, e.trans h1, h2⟩
theorem arI.cong {g : gE} {f : gF} {a n : Nat} {A A' : Nat → Int} (h : arI g f a n A) (e : ∀ k, k < n → A k = A' k) : arI g f a n A' := by obtain ⟨B, h1, h2⟩ := h; exact ⟨B, h1, fun k hk => by rw [h2 k hk, e k hk]⟩
theorem arC.cong {g : gE} {f : gF} {a n : Nat} {A A' : Nat → Int} (h : arC g f a n A) (e : ∀ k, k < n → A k = A' k) : arC g f a n A' := by obtain ⟨B, h1, h2⟩ := h; exact ⟨B, h1, fun k hk => by rw [h2 k hk, e k hk]⟩
theorem arZ.cong {g : gE} {f : gF} {a n : Nat} {A A' : Nat → Int} (h : arZ g f a n A) (e : ∀ k, k < n → A k = A' k) : arZ g f a n A' := by obtain ⟨B, h1, h2⟩ := h; exact ⟨B, h1, fun k hk => by rw [h2 k hk, e k hk]⟩
theorem arJ.cong {g : gE} {f : gF} {a n : Nat} {A A' : Nat → Int} (h : arJ g f a n A) (e : ∀ k, k < n → A k = A' k) : arJ g f a n A' := by obtain ⟨B, h1, h2⟩ := h; exact ⟨B, h1, fun k hk => by rw [h2 k hk, e k hk]⟩
def pu (P : Nat → Int) (k : Nat) (v : Int) : Nat → Int := fun j => if j = k then v else P j
theorem pu_s (P : Nat → Int) (k : Nat) (v : Int) : pu P k v k = v := by simp [pu]
theorem pu_n {P : Nat → Int} {k j : Nat} {v : Int} (h : j ≠ k) : pu P k v j = P j := by simp [pu, h]
section GR
variable {p : Program} {l : Launch} {e : Env} {R : Room} {s : State} {m : MethodId} {args : Array Value} {below : List Frame} {meth : Method} {c : Code} {H : Heap} {locs : List Loc} {cells slots : Nat} {Q : State → Prop}
variable {cc : ByteArray} {pc : Nat} {ls : Array Slot} {rest : List Value} {g : gE} {b0 n a : Nat} {f : gF} {H0 : Heap}
theorem g_get (hexec : p.tables.exec = Jvm.exec) (hb : c.code = cc) {own ref C : String} {T : u_T} {N ci index : Nat} (hts : ∀ w ∈ wU, w.before args s = true) (hin : ∀ w ∈ u_ws C T N, w ∈ wU) (hown : s.vm.findClass own = some m.cls) (hK : va_K g.1 vwCl (gT g) s) (hM : gH g b0 n f H0 H locs) (ha : b0 ≤ a ∧ a < b0 + n) {fs : List Value} (he : f a = .inr (ci, fs)) (hc : vwCl[ci]? = some (C, T, N)) (k : Nat) (hk : k < N) (hlink : (Cond.fieldLink own index ref (T k).2.1 (T k).2.2.1).before args s = true) (hsame : ∀ x, s.fieldFound? (T k).1 (T k).2.1 (T k).2.2.1 = some x → s.fieldFound? ref (T k).2.1 (T k).2.2.1 = some x) {v : Value} (hv : fs[k]? = some v) (hdg : decode cc pc = .ok (.getfield index, 3))
    (kk : W p l e R s m args below meth c H locs cells slots Q (F0 m (pc + 3) ls (v :: rest))) : W p l e R s m args below meth c H locs cells slots Q (F0 m pc ls (.ref a :: rest)) := by
  obtain ⟨q0, hq⟩ := gM_at f ha
  rw [he] at hq
  exact va_get hexec hb hts hin hown hK hM.1 q0 hq hc k hk hlink hsame hv hdg kk
theorem g_getN (hexec : p.tables.exec = Jvm.exec) (hb : c.code = cc) {own ref C host : String} {T : u_T} {N ci index : Nat} (hts : ∀ w ∈ wU, w.before args s = true) (hin : ∀ w ∈ u_ws C T N, w ∈ wU) (hown : s.vm.findClass own = some m.cls) (hK : va_K g.1 vwCl (gT g) s) (hM : gH g b0 n f H0 H locs) (ha : b0 ≤ a ∧ a < b0 + n) {fs : List Value} (he : f a = .inr (ci, fs)) (hc : vwCl[ci]? = some (C, T, N)) (k : Nat) (hk : k < N) (hlink : (Cond.fieldLinkNest own index ref (T k).2.1 (T k).2.2.1 host).before args s = true) (hsame : ∀ x, s.fieldFound? (T k).1 (T k).2.1 (T k).2.2.1 = some x → s.fieldFound? ref (T k).2.1 (T k).2.2.1 = some x) {v : Value} (hv : fs[k]? = some v) (hdg : decode cc pc = .ok (.getfield index, 3))
    (kk : W p l e R s m args below meth c H locs cells slots Q (F0 m (pc + 3) ls (v :: rest))) : W p l e R s m args below meth c H locs cells slots Q (F0 m pc ls (.ref a :: rest)) := by
  obtain ⟨q0, hq⟩ := gM_at f ha
  rw [he] at hq
  exact va_getN hexec hb hts hin hown hK hM.1 q0 hq hc k hk hlink hsame hv hdg kk
theorem g_put (hexec : p.tables.exec = Jvm.exec) (hb : c.code = cc) {own ref C : String} {T : u_T} {N ci index : Nat} (hts : ∀ w ∈ wU, w.before args s = true) (hin : ∀ w ∈ u_ws C T N, w ∈ wU) (ty0 : Nat → FieldType) (hty : ∀ k, k < N → parseFieldDescriptor (T k).2.2.1 = some (ty0 k)) (hnm : ∀ a, a < N → ∀ b, b < N → a ≠ b → (T a).2.1 ≠ (T b).2.1) (hown : s.vm.findClass own = some m.cls) (hK : va_K g.1 vwCl (gT g) s) (hM : gH g b0 n f H0 H locs) (ha : b0 ≤ a ∧ a < b0 + n) {fs : List Value} (he : f a = .inr (ci, fs)) (hc : vwCl[ci]? = some (C, T, N)) (k : Nat) (hk : k < N) (hlink : (Cond.fieldLink own index ref (T k).2.1 (T k).2.2.1).before args s = true) (hsame : ∀ x, s.fieldFound? (T k).1 (T k).2.1 (T k).2.2.1 = some x → s.fieldFound? ref (T k).2.1 (T k).2.2.1 = some x) (hfin : (T k).2.2.2 = false) {ty : FieldType} {v : Value} (hd : parseFieldDescriptor (T k).2.2.1 = some ty) (hn : narrow ty v = v) (hfit : fits ty v = true) (hl : k < fs.length) (hdg : decode cc pc = .ok (.putfield index, 3))
    (kk : ∀ (f1 : gF) (H1 : Heap) (locs1 : List Loc), gH g b0 n f1 H0 H1 locs1 → f1 a = .inr (ci, fs.set k v) → (∀ q, q ≠ a → f1 q = f q) → W p l e R s m args below meth c H1 locs1 cells slots Q (F0 m (pc + 3) ls rest)) : W p l e R s m args below meth c H locs cells slots Q (F0 m pc ls (v :: .ref a :: rest)) := by
  obtain ⟨q0, hq⟩ := gM_at f ha
  have hq2 := hq
  rw [he] at hq2
  exact va_put hexec hb hts hin ty0 hty hnm hown hK hM.1 (gD b0 n f) hM.2 q0 hq2 hc k hk hlink hsame hfin hd hn hfit hl hdg (fun H1 locs1 hP _ hS => kk _ H1 locs1 ⟨gM_up ha hq hP, hS⟩ (va_up_self _ _ _) (fun q hne => va_up_ne _ _ hne))
theorem g_putN (hexec : p.tables.exec = Jvm.exec) (hb : c.code = cc) {own ref C host : String} {T : u_T} {N ci index : Nat} (hts : ∀ w ∈ wU, w.before args s = true) (hin : ∀ w ∈ u_ws C T N, w ∈ wU) (ty0 : Nat → FieldType) (hty : ∀ k, k < N → parseFieldDescriptor (T k).2.2.1 = some (ty0 k)) (hnm : ∀ a, a < N → ∀ b, b < N → a ≠ b → (T a).2.1 ≠ (T b).2.1) (hown : s.vm.findClass own = some m.cls) (hK : va_K g.1 vwCl (gT g) s) (hM : gH g b0 n f H0 H locs) (ha : b0 ≤ a ∧ a < b0 + n) {fs : List Value} (he : f a = .inr (ci, fs)) (hc : vwCl[ci]? = some (C, T, N)) (k : Nat) (hk : k < N) (hlink : (Cond.fieldLinkNest own index ref (T k).2.1 (T k).2.2.1 host).before args s = true) (hsame : ∀ x, s.fieldFound? (T k).1 (T k).2.1 (T k).2.2.1 = some x → s.fieldFound? ref (T k).2.1 (T k).2.2.1 = some x) (hfin : (T k).2.2.2 = false) {ty : FieldType} {v : Value} (hd : parseFieldDescriptor (T k).2.2.1 = some ty) (hn : narrow ty v = v) (hfit : fits ty v = true) (hl : k < fs.length) (hdg : decode cc pc = .ok (.putfield index, 3))
    (kk : ∀ (f1 : gF) (H1 : Heap) (locs1 : List Loc), gH g b0 n f1 H0 H1 locs1 → f1 a = .inr (ci, fs.set k v) → (∀ q, q ≠ a → f1 q = f q) → W p l e R s m args below meth c H1 locs1 cells slots Q (F0 m (pc + 3) ls rest)) : W p l e R s m args below meth c H locs cells slots Q (F0 m pc ls (v :: .ref a :: rest)) := by
  obtain ⟨q0, hq⟩ := gM_at f ha
  have hq2 := hq
  rw [he] at hq2
  exact va_putN hexec hb hts hin ty0 hty hnm hown hK hM.1 (gD b0 n f) hM.2 q0 hq2 hc k hk hlink hsame hfin hd hn hfit hl hdg (fun H1 locs1 hP _ hS => kk _ H1 locs1 ⟨gM_up ha hq hP, hS⟩ (va_up_self _ _ _) (fun q hne => va_up_ne _ _ hne))
theorem g_putF (hexec : p.tables.exec = Jvm.exec) (hb : c.code = cc) {own ref C : String} {T : u_T} {N ci index : Nat} (hts : ∀ w ∈ wU, w.before args s = true) (hin : ∀ w ∈ u_ws C T N, w ∈ wU) (ty0 : Nat → FieldType) (hty : ∀ k, k < N → parseFieldDescriptor (T k).2.2.1 = some (ty0 k)) (hnm : ∀ a, a < N → ∀ b, b < N → a ≠ b → (T a).2.1 ≠ (T b).2.1) (hown : s.vm.findClass own = some m.cls) (hK : va_K g.1 vwCl (gT g) s) (hM : gH g b0 n f H0 H locs) (ha : b0 ≤ a ∧ a < b0 + n) {fs : List Value} (he : f a = .inr (ci, fs)) (hc : vwCl[ci]? = some (C, T, N)) (k : Nat) (hk : k < N) (hlink : (Cond.fieldLink own index ref (T k).2.1 (T k).2.2.1).before args s = true) (hsame : ∀ x, s.fieldFound? (T k).1 (T k).2.1 (T k).2.2.1 = some x → s.fieldFound? ref (T k).2.1 (T k).2.2.1 = some x) (hfin : (T k).2.2.2 = true) (hin2 : meth.name = "<init>") (hdecl : (T k).1 = own) {ty : FieldType} {v : Value} (hd : parseFieldDescriptor (T k).2.2.1 = some ty) (hn : narrow ty v = v) (hfit : fits ty v = true) (hl : k < fs.length) (hdg : decode cc pc = .ok (.putfield index, 3))
    (kk : ∀ (f1 : gF) (H1 : Heap) (locs1 : List Loc), gH g b0 n f1 H0 H1 locs1 → f1 a = .inr (ci, fs.set k v) → (∀ q, q ≠ a → f1 q = f q) → W p l e R s m args below meth c H1 locs1 cells slots Q (F0 m (pc + 3) ls rest)) : W p l e R s m args below meth c H locs cells slots Q (F0 m pc ls (v :: .ref a :: rest)) := by
  obtain ⟨q0, hq⟩ := gM_at f ha
  have hq2 := hq
  rw [he] at hq2
  exact va_putF hexec hb hts hin ty0 hty hnm hown hK hM.1 (gD b0 n f) hM.2 q0 hq2 hc k hk hlink hsame hfin hin2 hdecl hd hn hfit hl hdg (fun H1 locs1 hP _ hS => kk _ H1 locs1 ⟨gM_up ha hq hP, hS⟩ (va_up_self _ _ _) (fun q hne => va_up_ne _ _ hne))
theorem g_iald (hexec : p.tables.exec = Jvm.exec) (hb : c.code = cc) (hK : va_K g.1 vwCl (gT g) s) (hM : gH g b0 n f H0 H locs) (ha : b0 ≤ a ∧ a < b0 + n) {N : Nat} {A : Nat → Int} (hA : arI g f a N A) {z : Int} (h0 : 0 ≤ z) (h1 : z < N) (hN : N < 2147483648) (hdg : decode cc pc = .ok (.iaload, 1))
    (kk : W p l e R s m args below meth c H locs cells slots Q (F0 m (pc + 1) ls (.int (zI (A z.toNat)) :: rest))) : W p l e R s m args below meth c H locs cells slots Q (F0 m pc ls (.int (zI z) :: .ref a :: rest)) := by
  obtain ⟨q0, hq⟩ := gM_at f ha
  obtain ⟨B, hB, hv⟩ := hA
  rw [hB] at hq
  refine va_iald hexec hb hK hM.1 q0 1 hq rfl (zI_in h0 h1 hN) hdg ?_
  rw [zI_clamp h0 (by omega), hv z.toNat (by omega)]
  exact kk
theorem g_cald (hexec : p.tables.exec = Jvm.exec) (hb : c.code = cc) (hK : va_K g.1 vwCl (gT g) s) (hM : gH g b0 n f H0 H locs) (ha : b0 ≤ a ∧ a < b0 + n) {N : Nat} {A : Nat → Int} (hA : arC g f a N A) {z : Int} (h0 : 0 ≤ z) (h1 : z < N) (hN : N < 2147483648) (hdg : decode cc pc = .ok (.caload, 1))
    (kk : W p l e R s m args below meth c H locs cells slots Q (F0 m (pc + 1) ls (.int (zI (A z.toNat)) :: rest))) : W p l e R s m args below meth c H locs cells slots Q (F0 m pc ls (.int (zI z) :: .ref a :: rest)) := by
  obtain ⟨q0, hq⟩ := gM_at f ha
  obtain ⟨B, hB, hv⟩ := hA
  rw [hB] at hq
  refine va_cald hexec hb hK hM.1 q0 0 hq rfl (zI_in h0 h1 hN) hdg ?_
  rw [zI_clamp h0 (by omega), hv z.toNat (by omega)]
  exact kk
theorem g_zald (hexec : p.tables.exec = Jvm.exec) (hb : c.code = cc) (hK : va_K g.1 vwCl (gT g) s) (hM : gH g b0 n f H0 H locs) (ha : b0 ≤ a ∧ a < b0 + n) {N : Nat} {A : Nat → Int} (hA : arZ g f a N A) {z : Int} (h0 : 0 ≤ z) (h1 : z < N) (hN : N < 2147483648) (hdg : decode cc pc = .ok (.baload, 1))
    (kk : W p l e R s m args below meth c H locs cells slots Q (F0 m (pc + 1) ls (.int (zI (A z.toNat)) :: rest))) : W p l e R s m args below meth c H locs cells slots Q (F0 m pc ls (.int (zI z) :: .ref a :: rest)) := by
  obtain ⟨q0, hq⟩ := gM_at f ha
  obtain ⟨B, hB, hv⟩ := hA
  rw [hB] at hq
  refine va_zald hexec hb hK hM.1 q0 3 hq rfl (zI_in h0 h1 hN) hdg ?_
  rw [zI_clamp h0 (by omega), hv z.toNat (by omega)]
  exact kk
theorem g_lald (hexec : p.tables.exec = Jvm.exec) (hb : c.code = cc) (hK : va_K g.1 vwCl (gT g) s) (hM : gH g b0 n f H0 H locs) (ha : b0 ≤ a ∧ a < b0 + n) {N : Nat} {A : Nat → Int} (hA : arJ g f a N A) {z : Int} (h0 : 0 ≤ z) (h1 : z < N) (hN : N < 2147483648) (hdg : decode cc pc = .ok (.laload, 1))
    (kk : W p l e R s m args below meth c H locs cells slots Q (F0 m (pc + 1) ls (.long (zL (A z.toNat)) :: rest))) : W p l e R s m args below meth c H locs cells slots Q (F0 m pc ls (.int (zI z) :: .ref a :: rest)) := by
  obtain ⟨q0, hq⟩ := gM_at f ha
  obtain ⟨B, hB, hv⟩ := hA
  rw [hB] at hq
  refine va_lald hexec hb hK hM.1 q0 2 hq rfl (zI_in h0 h1 hN) hdg ?_
  rw [zI_clamp h0 (by omega), hv z.toNat (by omega)]
  exact kk
theorem g_iast (hexec : p.tables.exec = Jvm.exec) (hb : c.code = cc) (hK : va_K g.1 vwCl (gT g) s) (hM : gH g b0 n f H0 H locs) (ha : b0 ≤ a ∧ a < b0 + n) {N : Nat} {A : Nat → Int} (hA : arI g f a N A) {z v : Int} (h0 : 0 ≤ z) (h1 : z < N) (hN : N < 2147483648) (hdg : decode cc pc = .ok (.iastore, 1))
    (kk : ∀ (f1 : gF) (H1 : Heap) (locs1 : List Loc), gH g b0 n f1 H0 H1 locs1 → arI g f1 a N (pu A z.toNat v) → (∀ q, q ≠ a → f1 q = f q) → W p l e R s m args below meth c H1 locs1 cells slots Q (F0 m (pc + 1) ls rest)) : W p l e R s m args below meth c H locs cells slots Q (F0 m pc ls (.int (zI v) :: .int (zI z) :: .ref a :: rest)) := by
  obtain ⟨q0, hq⟩ := gM_at f ha
  obtain ⟨B, hB, hv⟩ := hA
  have hq2 := hq
  rw [hB] at hq2
  refine va_iast hexec hb hK hM.1 (gD b0 n f) hM.2 q0 1 hq2 rfl (zI_in h0 h1 hN) hdg (fun H1 locs1 hP _ hS => kk _ H1 locs1 ⟨gM_up ha hq hP, hS⟩ ⟨_, va_up_self _ _ _, fun k hk => ?_⟩ (fun q hne => va_up_ne _ _ hne))
  rw [zI_clamp h0 (by omega)]
  by_cases e : k = z.toNat
  · subst e; simp [upd, vp_updL, pu]
  · simp [upd, vp_updL, pu, e, hv k hk]
theorem g_last (hexec : p.tables.exec = Jvm.exec) (hb : c.code = cc) (hK : va_K g.1 vwCl (gT g) s) (hM : gH g b0 n f H0 H locs) (ha : b0 ≤ a ∧ a < b0 + n) {N : Nat} {A : Nat → Int} (hA : arJ g f a N A) {z v : Int} (h0 : 0 ≤ z) (h1 : z < N) (hN : N < 2147483648) (hdg : decode cc pc = .ok (.lastore, 1))
    (kk : ∀ (f1 : gF) (H1 : Heap) (locs1 : List Loc), gH g b0 n f1 H0 H1 locs1 → arJ g f1 a N (pu A z.toNat v) → (∀ q, q ≠ a → f1 q = f q) → W p l e R s m args below meth c H1 locs1 cells slots Q (F0 m (pc + 1) ls rest)) : W p l e R s m args below meth c H locs cells slots Q (F0 m pc ls (.long (zL v) :: .int (zI z) :: .ref a :: rest)) := by
  obtain ⟨q0, hq⟩ := gM_at f ha
  obtain ⟨B, hB, hv⟩ := hA
  have hq2 := hq
  rw [hB] at hq2
  refine va_last hexec hb hK hM.1 (gD b0 n f) hM.2 q0 2 hq2 rfl (zI_in h0 h1 hN) hdg (fun H1 locs1 hP _ hS => kk _ H1 locs1 ⟨gM_up ha hq hP, hS⟩ ⟨_, va_up_self _ _ _, fun k hk => ?_⟩ (fun q hne => va_up_ne _ _ hne))
  rw [zI_clamp h0 (by omega)]
  by_cases e : k = z.toNat
  · subst e; simp [upd, vp_updL, pu]
  · simp [upd, vp_updL, pu, e, hv k hk]
theorem g_iadd (hexec : p.tables.exec = Jvm.exec) (hb : c.code = cc) {x y : Int} (hdg : decode cc pc = .ok (.iadd, 1)) (k : W p l e R s m args below meth c H locs cells slots Q (F0 m (pc + 1) ls (.int (zI (x + y)) :: rest))) : W p l e R s m args below meth c H locs cells slots Q (F0 m pc ls (.int (zI y) :: .int (zI x) :: rest)) := by
  refine lv_iadd hexec hb hdg ?_
  rw [zI_add]
  exact k
theorem g_isub (hexec : p.tables.exec = Jvm.exec) (hb : c.code = cc) {x y : Int} (hdg : decode cc pc = .ok (.isub, 1)) (k : W p l e R s m args below meth c H locs cells slots Q (F0 m (pc + 1) ls (.int (zI (x - y)) :: rest))) : W p l e R s m args below meth c H locs cells slots Q (F0 m pc ls (.int (zI y) :: .int (zI x) :: rest)) := by
  refine lv_isub hexec hb hdg ?_
  rw [zI_sub]
  exact k
theorem g_imul (hexec : p.tables.exec = Jvm.exec) (hb : c.code = cc) {x y : Int} (hdg : decode cc pc = .ok (.imul, 1)) (k : W p l e R s m args below meth c H locs cells slots Q (F0 m (pc + 1) ls (.int (zI (x * y)) :: rest))) : W p l e R s m args below meth c H locs cells slots Q (F0 m pc ls (.int (zI y) :: .int (zI x) :: rest)) := by
  refine lv_imul hexec hb hdg ?_
  rw [zI_mul]
  exact k
theorem g_ladd (hexec : p.tables.exec = Jvm.exec) (hb : c.code = cc) {x y : Int} (hdg : decode cc pc = .ok (.ladd, 1)) (k : W p l e R s m args below meth c H locs cells slots Q (F0 m (pc + 1) ls (.long (zL (x + y)) :: rest))) : W p l e R s m args below meth c H locs cells slots Q (F0 m pc ls (.long (zL y) :: .long (zL x) :: rest)) := by
  refine lv_ladd hexec hb hdg ?_
  rw [zL_add]
  exact k
theorem g_lsub (hexec : p.tables.exec = Jvm.exec) (hb : c.code = cc) {x y : Int} (hdg : decode cc pc = .ok (.lsub, 1)) (k : W p l e R s m args below meth c H locs cells slots Q (F0 m (pc + 1) ls (.long (zL (x - y)) :: rest))) : W p l e R s m args below meth c H locs cells slots Q (F0 m pc ls (.long (zL y) :: .long (zL x) :: rest)) := by
  refine lv_lsub hexec hb hdg ?_
  rw [zL_sub]
  exact k
theorem g_lmul (hexec : p.tables.exec = Jvm.exec) (hb : c.code = cc) {x y : Int} (hdg : decode cc pc = .ok (.lmul, 1)) (k : W p l e R s m args below meth c H locs cells slots Q (F0 m (pc + 1) ls (.long (zL (x * y)) :: rest))) : W p l e R s m args below meth c H locs cells slots Q (F0 m pc ls (.long (zL y) :: .long (zL x) :: rest)) := by
  refine lv_lmul hexec hb hdg ?_
  rw [zL_mul]
  exact k
theorem g_lneg (hexec : p.tables.exec = Jvm.exec) (hb : c.code = cc) {x : Int} (hdg : decode cc pc = .ok (.lneg, 1)) (k : W p l e R s m args below meth c H locs cells slots Q (F0 m (pc + 1) ls (.long (zL (-x)) :: rest))) : W p l e R s m args below meth c H locs cells slots Q (F0 m pc ls (.long (zL x) :: rest)) := by
  refine lv_lneg hexec hb hdg ?_
  rw [zL_neg]
  exact k
theorem g_ldiv (hexec : p.tables.exec = Jvm.exec) (hb : c.code = cc) {x y : Int} (hdg : decode cc pc = .ok (.ldiv, 1)) (hx : rL x) (hy : rL y) (h : 0 < y) (k : W p l e R s m args below meth c H locs cells slots Q (F0 m (pc + 1) ls (.long (zL (x.tdiv y)) :: rest))) : W p l e R s m args below meth c H locs cells slots Q (F0 m pc ls (.long (zL y) :: .long (zL x) :: rest)) := by
  refine lv_ldiv hexec hb hdg (zL_ne0 hy (by omega)) ?_
  rw [zL_div hx hy h]
  exact k
theorem g_lrem (hexec : p.tables.exec = Jvm.exec) (hb : c.code = cc) {x y : Int} (hdg : decode cc pc = .ok (.lrem, 1)) (hx : rL x) (hy : rL y) (h : 0 < y) (k : W p l e R s m args below meth c H locs cells slots Q (F0 m (pc + 1) ls (.long (zL (x.tmod y)) :: rest))) : W p l e R s m args below meth c H locs cells slots Q (F0 m pc ls (.long (zL y) :: .long (zL x) :: rest)) := by
  refine lv_lrem hexec hb hdg (zL_ne0 hy (by omega)) ?_
  rw [zL_rem hx hy h]
  exact k
theorem g_idiv (hexec : p.tables.exec = Jvm.exec) (hb : c.code = cc) {x y : Int} (hdg : decode cc pc = .ok (.idiv, 1)) (hx : rI x) (hy : rI y) (h : 0 < y) (k : W p l e R s m args below meth c H locs cells slots Q (F0 m (pc + 1) ls (.int (zI (x.tdiv y)) :: rest))) : W p l e R s m args below meth c H locs cells slots Q (F0 m pc ls (.int (zI y) :: .int (zI x) :: rest)) := by
  refine lv_idiv hexec hb hdg (zI_ne0 hy (by omega)) ?_
  rw [zI_div hx hy h]
  exact k
theorem g_irem (hexec : p.tables.exec = Jvm.exec) (hb : c.code = cc) {x y : Int} (hdg : decode cc pc = .ok (.irem, 1)) (hx : rI x) (hy : rI y) (h : 0 < y) (k : W p l e R s m args below meth c H locs cells slots Q (F0 m (pc + 1) ls (.int (zI (x.tmod y)) :: rest))) : W p l e R s m args below meth c H locs cells slots Q (F0 m pc ls (.int (zI y) :: .int (zI x) :: rest)) := by
  refine lv_irem hexec hb hdg (zI_ne0 hy (by omega)) ?_
  rw [zI_rem hx hy h]
  exact k
theorem g_i2l (hexec : p.tables.exec = Jvm.exec) (hb : c.code = cc) {x : Int} (hdg : decode cc pc = .ok (.i2l, 1)) (hx : rI x) (k : W p l e R s m args below meth c H locs cells slots Q (F0 m (pc + 1) ls (.long (zL x) :: rest))) : W p l e R s m args below meth c H locs cells slots Q (F0 m pc ls (.int (zI x) :: rest)) := lv_i2l hexec hb hdg (zI_l hx) k
theorem g_l2i (hexec : p.tables.exec = Jvm.exec) (hb : c.code = cc) {x : Int} (hdg : decode cc pc = .ok (.l2i, 1)) (k : W p l e R s m args below meth c H locs cells slots Q (F0 m (pc + 1) ls (.int (zI x) :: rest))) : W p l e R s m args below meth c H locs cells slots Q (F0 m pc ls (.long (zL x) :: rest)) := lv_l2i hexec hb hdg (zL_i x) k
theorem g_icmp_ge (hexec : p.tables.exec = Jvm.exec) (hb : c.code = cc) {x y : Int} {off : Int} {tgt : Nat} (hdg : decode cc pc = .ok (.if_icmp .ge off, 3)) (ht : (pc : Int) + off = (tgt : Int)) (hx : rI x) (hy : rI y)
    (kt : y ≤ x → W p l e R s m args below meth c H locs cells slots Q (F0 m tgt ls rest)) (kf : ¬ y ≤ x → W p l e R s m args below meth c H locs cells slots Q (F0 m (pc + 3) ls rest)) : W p l e R s m args below meth c H locs cells slots Q (F0 m pc ls (.int (zI y) :: .int (zI x) :: rest)) :=
  lv_icmp_ge hexec hb hdg ht (fun h => kt ((zI_le hy hx).mp h)) (fun h => kf (fun h2 => h ((zI_le hy hx).mpr h2)))
theorem g_icmp_gt (hexec : p.tables.exec = Jvm.exec) (hb : c.code = cc) {x y : Int} {off : Int} {tgt : Nat} (hdg : decode cc pc = .ok (.if_icmp .gt off, 3)) (ht : (pc : Int) + off = (tgt : Int)) (hx : rI x) (hy : rI y)
    (kt : y < x → W p l e R s m args below meth c H locs cells slots Q (F0 m tgt ls rest)) (kf : ¬ y < x → W p l e R s m args below meth c H locs cells slots Q (F0 m (pc + 3) ls rest)) : W p l e R s m args below meth c H locs cells slots Q (F0 m pc ls (.int (zI y) :: .int (zI x) :: rest)) :=
  lv_icmp_gt hexec hb hdg ht (fun h => kt ((zI_lt hy hx).mp h)) (fun h => kf (fun h2 => h ((zI_lt hy hx).mpr h2)))
theorem g_icmp_lt (hexec : p.tables.exec = Jvm.exec) (hb : c.code = cc) {x y : Int} {off : Int} {tgt : Nat} (hdg : decode cc pc = .ok (.if_icmp .lt off, 3)) (ht : (pc : Int) + off = (tgt : Int)) (hx : rI x) (hy : rI y)
    (kt : x < y → W p l e R s m args below meth c H locs cells slots Q (F0 m tgt ls rest)) (kf : ¬ x < y → W p l e R s m args below meth c H locs cells slots Q (F0 m (pc + 3) ls rest)) : W p l e R s m args below meth c H locs cells slots Q (F0 m pc ls (.int (zI y) :: .int (zI x) :: rest)) :=
  lv_icmp_lt hexec hb hdg ht (fun h => kt ((zI_lt hx hy).mp h)) (fun h => kf (fun h2 => h ((zI_lt hx hy).mpr h2)))
theorem g_icmp_le (hexec : p.tables.exec = Jvm.exec) (hb : c.code = cc) {x y : Int} {off : Int} {tgt : Nat} (hdg : decode cc pc = .ok (.if_icmp .le off, 3)) (ht : (pc : Int) + off = (tgt : Int)) (hx : rI x) (hy : rI y)
    (kt : x ≤ y → W p l e R s m args below meth c H locs cells slots Q (F0 m tgt ls rest)) (kf : ¬ x ≤ y → W p l e R s m args below meth c H locs cells slots Q (F0 m (pc + 3) ls rest)) : W p l e R s m args below meth c H locs cells slots Q (F0 m pc ls (.int (zI y) :: .int (zI x) :: rest)) :=
  lv_icmp_le hexec hb hdg ht (fun h => kt ((zI_le hx hy).mp h)) (fun h => kf (fun h2 => h ((zI_le hx hy).mpr h2)))
theorem g_icmp_eq (hexec : p.tables.exec = Jvm.exec) (hb : c.code = cc) {x y : Int} {off : Int} {tgt : Nat} (hdg : decode cc pc = .ok (.if_icmp .eq off, 3)) (ht : (pc : Int) + off = (tgt : Int)) (hx : rI x) (hy : rI y)
    (kt : x = y → W p l e R s m args below meth c H locs cells slots Q (F0 m tgt ls rest)) (kf : ¬ x = y → W p l e R s m args below meth c H locs cells slots Q (F0 m (pc + 3) ls rest)) : W p l e R s m args below meth c H locs cells slots Q (F0 m pc ls (.int (zI y) :: .int (zI x) :: rest)) :=
  lv_icmp_eq hexec hb hdg ht (fun h => kt ((zI_eq hx hy).mp h)) (fun h => kf (fun h2 => h ((zI_eq hx hy).mpr h2)))
theorem g_icmp_ne (hexec : p.tables.exec = Jvm.exec) (hb : c.code = cc) {x y : Int} {off : Int} {tgt : Nat} (hdg : decode cc pc = .ok (.if_icmp .ne off, 3)) (ht : (pc : Int) + off = (tgt : Int)) (hx : rI x) (hy : rI y)
    (kt : ¬ x = y → W p l e R s m args below meth c H locs cells slots Q (F0 m tgt ls rest)) (kf : x = y → W p l e R s m args below meth c H locs cells slots Q (F0 m (pc + 3) ls rest)) : W p l e R s m args below meth c H locs cells slots Q (F0 m pc ls (.int (zI y) :: .int (zI x) :: rest)) :=
  lv_icmp_ne hexec hb hdg ht (fun h => kt (fun h2 => h ((zI_eq hx hy).mpr h2))) (fun h => kf ((zI_eq hx hy).mp h))
theorem g_if_ge (hexec : p.tables.exec = Jvm.exec) (hb : c.code = cc) {x : Int} {off : Int} {tgt : Nat} (hdg : decode cc pc = .ok (.ifCond .ge off, 3)) (ht : (pc : Int) + off = (tgt : Int)) (hx : rI x)
    (kt : 0 ≤ x → W p l e R s m args below meth c H locs cells slots Q (F0 m tgt ls rest)) (kf : ¬ 0 ≤ x → W p l e R s m args below meth c H locs cells slots Q (F0 m (pc + 3) ls rest)) : W p l e R s m args below meth c H locs cells slots Q (F0 m pc ls (.int (zI x) :: rest)) :=
  lv_if_ge hexec hb hdg ht (fun h => kt ((zI_le rI_0 hx).mp h)) (fun h => kf (fun h2 => h ((zI_le rI_0 hx).mpr h2)))
theorem g_if_gt (hexec : p.tables.exec = Jvm.exec) (hb : c.code = cc) {x : Int} {off : Int} {tgt : Nat} (hdg : decode cc pc = .ok (.ifCond .gt off, 3)) (ht : (pc : Int) + off = (tgt : Int)) (hx : rI x)
    (kt : 0 < x → W p l e R s m args below meth c H locs cells slots Q (F0 m tgt ls rest)) (kf : ¬ 0 < x → W p l e R s m args below meth c H locs cells slots Q (F0 m (pc + 3) ls rest)) : W p l e R s m args below meth c H locs cells slots Q (F0 m pc ls (.int (zI x) :: rest)) :=
  lv_if_gt hexec hb hdg ht (fun h => kt ((zI_lt rI_0 hx).mp h)) (fun h => kf (fun h2 => h ((zI_lt rI_0 hx).mpr h2)))
theorem g_if_lt (hexec : p.tables.exec = Jvm.exec) (hb : c.code = cc) {x : Int} {off : Int} {tgt : Nat} (hdg : decode cc pc = .ok (.ifCond .lt off, 3)) (ht : (pc : Int) + off = (tgt : Int)) (hx : rI x)
    (kt : x < 0 → W p l e R s m args below meth c H locs cells slots Q (F0 m tgt ls rest)) (kf : ¬ x < 0 → W p l e R s m args below meth c H locs cells slots Q (F0 m (pc + 3) ls rest)) : W p l e R s m args below meth c H locs cells slots Q (F0 m pc ls (.int (zI x) :: rest)) :=
  lv_if_lt hexec hb hdg ht (fun h => kt ((zI_lt hx rI_0).mp h)) (fun h => kf (fun h2 => h ((zI_lt hx rI_0).mpr h2)))
theorem g_if_le (hexec : p.tables.exec = Jvm.exec) (hb : c.code = cc) {x : Int} {off : Int} {tgt : Nat} (hdg : decode cc pc = .ok (.ifCond .le off, 3)) (ht : (pc : Int) + off = (tgt : Int)) (hx : rI x)
    (kt : x ≤ 0 → W p l e R s m args below meth c H locs cells slots Q (F0 m tgt ls rest)) (kf : ¬ x ≤ 0 → W p l e R s m args below meth c H locs cells slots Q (F0 m (pc + 3) ls rest)) : W p l e R s m args below meth c H locs cells slots Q (F0 m pc ls (.int (zI x) :: rest)) :=
  lv_if_le hexec hb hdg ht (fun h => kt ((zI_le hx rI_0).mp h)) (fun h => kf (fun h2 => h ((zI_le hx rI_0).mpr h2)))
theorem g_if_eq (hexec : p.tables.exec = Jvm.exec) (hb : c.code = cc) {x : Int} {off : Int} {tgt : Nat} (hdg : decode cc pc = .ok (.ifCond .eq off, 3)) (ht : (pc : Int) + off = (tgt : Int)) (hx : rI x)
    (kt : x = 0 → W p l e R s m args below meth c H locs cells slots Q (F0 m tgt ls rest)) (kf : ¬ x = 0 → W p l e R s m args below meth c H locs cells slots Q (F0 m (pc + 3) ls rest)) : W p l e R s m args below meth c H locs cells slots Q (F0 m pc ls (.int (zI x) :: rest)) :=
  lv_if_eq hexec hb hdg ht (fun h => kt ((zI_eq hx rI_0).mp h)) (fun h => kf (fun h2 => h ((zI_eq hx rI_0).mpr h2)))
theorem g_if_ne (hexec : p.tables.exec = Jvm.exec) (hb : c.code = cc) {x : Int} {off : Int} {tgt : Nat} (hdg : decode cc pc = .ok (.ifCond .ne off, 3)) (ht : (pc : Int) + off = (tgt : Int)) (hx : rI x)
    (kt : ¬ x = 0 → W p l e R s m args below meth c H locs cells slots Q (F0 m tgt ls rest)) (kf : x = 0 → W p l e R s m args below meth c H locs cells slots Q (F0 m (pc + 3) ls rest)) : W p l e R s m args below meth c H locs cells slots Q (F0 m pc ls (.int (zI x) :: rest)) :=
  lv_if_ne hexec hb hdg ht (fun h => kt (fun h2 => h ((zI_eq hx rI_0).mpr h2))) (fun h => kf ((zI_eq hx rI_0).mp h))
theorem g_ifb_eq (hexec : p.tables.exec = Jvm.exec) (hb : c.code = cc) {x : Prop} [Decidable x] {off : Int} {tgt : Nat} (hdg : decode cc pc = .ok (.ifCond .eq off, 3)) (ht : (pc : Int) + off = (tgt : Int))
    (kt : ¬ x → W p l e R s m args below meth c H locs cells slots Q (F0 m tgt ls rest)) (kf : x → W p l e R s m args below meth c H locs cells slots Q (F0 m (pc + 3) ls rest)) : W p l e R s m args below meth c H locs cells slots Q (F0 m pc ls (.int (bI x) :: rest)) := by
  by_cases h : x
  · rw [bI_t h]; exact lv_if_eq hexec hb hdg ht (fun q => absurd q (by decide)) (fun _ => kf h)
  · rw [bI_f h]; exact lv_if_eq hexec hb hdg ht (fun _ => kt h) (fun q => absurd rfl q)
theorem g_ifb_ne (hexec : p.tables.exec = Jvm.exec) (hb : c.code = cc) {x : Prop} [Decidable x] {off : Int} {tgt : Nat} (hdg : decode cc pc = .ok (.ifCond .ne off, 3)) (ht : (pc : Int) + off = (tgt : Int))
    (kt : x → W p l e R s m args below meth c H locs cells slots Q (F0 m tgt ls rest)) (kf : ¬ x → W p l e R s m args below meth c H locs cells slots Q (F0 m (pc + 3) ls rest)) : W p l e R s m args below meth c H locs cells slots Q (F0 m pc ls (.int (bI x) :: rest)) := by
  by_cases h : x
  · rw [bI_t h]; exact lv_if_ne hexec hb hdg ht (fun _ => kt h) (fun q => absurd q (by decide))
  · rw [bI_f h]; exact lv_if_ne hexec hb hdg ht (fun q => absurd rfl q) (fun _ => kf h)
theorem g_cmp {x y : Int} (hx : rL x) (hy : rL y) : lg_cmp (zL x) (zL y) = zI (if y < x then 1 else if x = y then 0 else -1) := by
  unfold lg_cmp
  simp only [zL_lt hy hx, zL_eq hx hy]
  split
  · decide
  · split <;> decide
theorem g_lcmp_ge (hexec : p.tables.exec = Jvm.exec) (hb : c.code = cc) {x y : Int} {off : Int} {tgt : Nat} (hdg : decode cc pc = .ok (.lcmp, 1)) (hdg2 : decode cc (pc + 1) = .ok (.ifCond .ge off, 3)) (ht : ((pc + 1 : Nat) : Int) + off = (tgt : Int)) (hx : rL x) (hy : rL y)
    (kt : y ≤ x → W p l e R s m args below meth c H locs cells slots Q (F0 m tgt ls rest)) (kf : ¬ y ≤ x → W p l e R s m args below meth c H locs cells slots Q (F0 m (pc + 4) ls rest)) : W p l e R s m args below meth c H locs cells slots Q (F0 m pc ls (.long (zL y) :: .long (zL x) :: rest)) := by
  refine W.lcmp hexec hb hdg ?_
  rw [g_cmp hx hy]
  refine g_if_ge hexec hb hdg2 ht (by split <;> (try split) <;> decide) (fun h => kt ?_) (fun h => kf ?_) <;> (repeat split at h) <;> omega
theorem g_lcmp_gt (hexec : p.tables.exec = Jvm.exec) (hb : c.code = cc) {x y : Int} {off : Int} {tgt : Nat} (hdg : decode cc pc = .ok (.lcmp, 1)) (hdg2 : decode cc (pc + 1) = .ok (.ifCond .gt off, 3)) (ht : ((pc + 1 : Nat) : Int) + off = (tgt : Int)) (hx : rL x) (hy : rL y)
    (kt : y < x → W p l e R s m args below meth c H locs cells slots Q (F0 m tgt ls rest)) (kf : ¬ y < x → W p l e R s m args below meth c H locs cells slots Q (F0 m (pc + 4) ls rest)) : W p l e R s m args below meth c H locs cells slots Q (F0 m pc ls (.long (zL y) :: .long (zL x) :: rest)) := by
  refine W.lcmp hexec hb hdg ?_
  rw [g_cmp hx hy]
  refine g_if_gt hexec hb hdg2 ht (by split <;> (try split) <;> decide) (fun h => kt ?_) (fun h => kf ?_) <;> (repeat split at h) <;> omega
theorem g_lcmp_lt (hexec : p.tables.exec = Jvm.exec) (hb : c.code = cc) {x y : Int} {off : Int} {tgt : Nat} (hdg : decode cc pc = .ok (.lcmp, 1)) (hdg2 : decode cc (pc + 1) = .ok (.ifCond .lt off, 3)) (ht : ((pc + 1 : Nat) : Int) + off = (tgt : Int)) (hx : rL x) (hy : rL y)
    (kt : x < y → W p l e R s m args below meth c H locs cells slots Q (F0 m tgt ls rest)) (kf : ¬ x < y → W p l e R s m args below meth c H locs cells slots Q (F0 m (pc + 4) ls rest)) : W p l e R s m args below meth c H locs cells slots Q (F0 m pc ls (.long (zL y) :: .long (zL x) :: rest)) := by
  refine W.lcmp hexec hb hdg ?_
  rw [g_cmp hx hy]
  refine g_if_lt hexec hb hdg2 ht (by split <;> (try split) <;> decide) (fun h => kt ?_) (fun h => kf ?_) <;> (repeat split at h) <;> omega
theorem g_lcmp_le (hexec : p.tables.exec = Jvm.exec) (hb : c.code = cc) {x y : Int} {off : Int} {tgt : Nat} (hdg : decode cc pc = .ok (.lcmp, 1)) (hdg2 : decode cc (pc + 1) = .ok (.ifCond .le off, 3)) (ht : ((pc + 1 : Nat) : Int) + off = (tgt : Int)) (hx : rL x) (hy : rL y)
    (kt : x ≤ y → W p l e R s m args below meth c H locs cells slots Q (F0 m tgt ls rest)) (kf : ¬ x ≤ y → W p l e R s m args below meth c H locs cells slots Q (F0 m (pc + 4) ls rest)) : W p l e R s m args below meth c H locs cells slots Q (F0 m pc ls (.long (zL y) :: .long (zL x) :: rest)) := by
  refine W.lcmp hexec hb hdg ?_
  rw [g_cmp hx hy]
  refine g_if_le hexec hb hdg2 ht (by split <;> (try split) <;> decide) (fun h => kt ?_) (fun h => kf ?_) <;> (repeat split at h) <;> omega
theorem g_lcmp_eq (hexec : p.tables.exec = Jvm.exec) (hb : c.code = cc) {x y : Int} {off : Int} {tgt : Nat} (hdg : decode cc pc = .ok (.lcmp, 1)) (hdg2 : decode cc (pc + 1) = .ok (.ifCond .eq off, 3)) (ht : ((pc + 1 : Nat) : Int) + off = (tgt : Int)) (hx : rL x) (hy : rL y)
    (kt : x = y → W p l e R s m args below meth c H locs cells slots Q (F0 m tgt ls rest)) (kf : ¬ x = y → W p l e R s m args below meth c H locs cells slots Q (F0 m (pc + 4) ls rest)) : W p l e R s m args below meth c H locs cells slots Q (F0 m pc ls (.long (zL y) :: .long (zL x) :: rest)) := by
  refine W.lcmp hexec hb hdg ?_
  rw [g_cmp hx hy]
  refine g_if_eq hexec hb hdg2 ht (by split <;> (try split) <;> decide) (fun h => kt ?_) (fun h => kf ?_) <;> (repeat split at h) <;> omega
theorem g_lcmp_ne (hexec : p.tables.exec = Jvm.exec) (hb : c.code = cc) {x y : Int} {off : Int} {tgt : Nat} (hdg : decode cc pc = .ok (.lcmp, 1)) (hdg2 : decode cc (pc + 1) = .ok (.ifCond .ne off, 3)) (ht : ((pc + 1 : Nat) : Int) + off = (tgt : Int)) (hx : rL x) (hy : rL y)
    (kt : ¬ x = y → W p l e R s m args below meth c H locs cells slots Q (F0 m tgt ls rest)) (kf : x = y → W p l e R s m args below meth c H locs cells slots Q (F0 m (pc + 4) ls rest)) : W p l e R s m args below meth c H locs cells slots Q (F0 m pc ls (.long (zL y) :: .long (zL x) :: rest)) := by
  refine W.lcmp hexec hb hdg ?_
  rw [g_cmp hx hy]
  refine g_if_ne hexec hb hdg2 ht (by split <;> (try split) <;> decide) (fun h => kt ?_) (fun h => kf ?_) <;> (repeat split at h) <;> omega
theorem g_iconst (hexec : p.tables.exec = Jvm.exec) (hb : c.code = cc) {z : Int} (hdg : decode cc pc = .ok (.iconst z, 1)) (k : W p l e R s m args below meth c H locs cells slots Q (F0 m (pc + 1) ls (.int (zI z) :: rest))) : W p l e R s m args below meth c H locs cells slots Q (F0 m pc ls rest) := lv_iconst hexec hb hdg rfl k
theorem g_bipush (hexec : p.tables.exec = Jvm.exec) (hb : c.code = cc) {z : Int} (hdg : decode cc pc = .ok (.bipush z, 2)) (hz : (Int8.ofInt z).toInt32 = zI z) (k : W p l e R s m args below meth c H locs cells slots Q (F0 m (pc + 2) ls (.int (zI z) :: rest))) : W p l e R s m args below meth c H locs cells slots Q (F0 m pc ls rest) := lv_bipush hexec hb hdg hz k
theorem g_sipush (hexec : p.tables.exec = Jvm.exec) (hb : c.code = cc) {z : Int} (hdg : decode cc pc = .ok (.sipush z, 3)) (hz : (Int16.ofInt z).toInt32 = zI z) (k : W p l e R s m args below meth c H locs cells slots Q (F0 m (pc + 3) ls (.int (zI z) :: rest))) : W p l e R s m args below meth c H locs cells slots Q (F0 m pc ls rest) := lv_sipush hexec hb hdg hz k
theorem g_lconst (hexec : p.tables.exec = Jvm.exec) (hb : c.code = cc) {n' : Fin 2} {z : Int} (hdg : decode cc pc = .ok (.lconst n', 1)) (hz : Int64.ofNat (n' : Nat) = zL z) (k : W p l e R s m args below meth c H locs cells slots Q (F0 m (pc + 1) ls (.long (zL z) :: rest))) : W p l e R s m args below meth c H locs cells slots Q (F0 m pc ls rest) := lv_lconst hexec hb hdg hz k
theorem g_ldc (hexec : p.tables.exec = Jvm.exec) (hb : c.code = cc) {own : String} {index : Nat} {v : Int32} {z : Int} (hown : s.vm.findClass own = some m.cls) (hconst : (Jvm.Cond.constant own index v).before args s = true) (hdg : decode cc pc = .ok (.ldc index, 2)) (hz : v = zI z) (k : W p l e R s m args below meth c H locs cells slots Q (F0 m (pc + 2) ls (.int (zI z) :: rest))) : W p l e R s m args below meth c H locs cells slots Q (F0 m pc ls rest) := by
  subst hz; exact lv_ldc hexec hb hown hconst hdg k
theorem g_ldc2 (hexec : p.tables.exec = Jvm.exec) (hb : c.code = cc) {own : String} {index : Nat} {v : Int64} {z : Int} (hown : s.vm.findClass own = some m.cls) (hconst : (Jvm.Cond.constantLong own index v).before args s = true) (hdg : decode cc pc = .ok (.ldc2_w index, 3)) (hz : v = zL z) (k : W p l e R s m args below meth c H locs cells slots Q (F0 m (pc + 3) ls (.long (zL z) :: rest))) : W p l e R s m args below meth c H locs cells slots Q (F0 m pc ls rest) := by
  subst hz; exact lv_ldc2 hexec hb hown hconst hdg k
end GR
