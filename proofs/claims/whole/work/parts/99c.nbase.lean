/-! making objects: each lies where the memory ended -/
theorem gM_push {g : gE} {b0 n : Nat} {f : gF} {H H1 : Heap} {en : va_E} (hM : gM g b0 n f H) (hk : ∀ q : Nat, q < b0 + n → H1[q]? = H[q]?) (hN : va_P g.1 vwCl [(b0 + n, en)] H1) : gM g b0 (n + 1) (va_up f (b0 + n) en) H1 := by
  have h1 : va_P g.1 vwCl (va_pl (List.range' b0 n) f) H1 := va_P.kept hM (fun k x hx => hk x.1 (by
    have hm := List.mem_of_getElem? hx
    obtain ⟨a, ha, rfl⟩ := List.mem_map.mp hm
    exact (List.mem_range'_1.mp ha).2))
  have h2 := h1.app hN
  rw [va_pl_push (fun h => by have := List.mem_range'_1.mp h; omega)] at h2
  unfold gM
  rw [List.range'_1_concat]
  exact h2
theorem cb_ok {N k : Nat} (h : k ≤ 8) (hN : N ≤ 100000) : N * k ≤ 536870912 := Nat.le_trans (Nat.mul_le_mul_left N h) (by omega)
section GNW
variable {p : Program} {l : Launch} {e : Env} {R : Room} {s : State} {m : MethodId} {args : Array Value} {below : List Frame} {meth : Method} {c : Code} {H : Heap} {locs : List Loc} {cells slots : Nat} {Q : State → Prop}
variable {cc : ByteArray} {pc : Nat} {ls : Array Slot} {rest st : List Value} {g : gE} {b0 n : Nat} {f : gF} {H0 : Heap}
theorem g_new (hexec : p.tables.exec = Jvm.exec) (hb : c.code = cc) {own C : String} {T : u_T} {N ci index a : Nat} (hts : ∀ w ∈ wU, w.before args s = true) (hin : ∀ w ∈ u_ws C T N, w ∈ wU) (ty : Nat → FieldType) (hty : ∀ k, k < N → parseFieldDescriptor (T k).2.2.1 = some (ty k)) (hown : s.vm.findClass own = some m.cls) (hcl : Cond.classLink own index C ∈ wU) (hinst : Cond.instantiable C N ∈ wU) (hini : Cond.initialized C ∈ wU)
    (hK : va_K g.1 vwCl (gT g) s) (hM : gH g b0 n f H0 H locs) (hz : H.size = b0 + n) (ha : a = b0 + n) (hc : vwCl[ci]? = some (C, T, N)) (fs : List Value) (hfs : ∀ j, j < N → defaultValue (ty j) = vp_V fs j) (hcells : cells + 1 ≤ R.cells) (hslots : slots + N ≤ R.slots) (hdg : decode cc pc = .ok (.new index, 3))
    (kk : ∀ (f1 : gF) (H1 : Heap), gH g b0 (n + 1) f1 H0 H1 locs → H1.size = b0 + (n + 1) → f1 a = .inr (ci, fs) → (∀ q, q ≠ a → f1 q = f q) → W p l e R s m args below meth c H1 locs (cells + 1) (slots + N) Q (F0 m (pc + 3) ls (.ref a :: rest))) : W p l e R s m args below meth c H locs cells slots Q (F0 m pc ls rest) := by
  have hKn := hK.1 ci _ hc
  subst ha
  refine W.newcK hexec hb hown (hts _ hcl) (hts _ hinst) (hts _ hini) rfl hdg hcells hslots hKn.2.1 hz fun H1 kC hkC e1 z1 o1 => ?_
  refine kk _ H1 ⟨gM_push hM.1 o1 (fun k x hx => ?_), Nat.le_trans hM.2.1 (by omega), fun x h1 h2 => (o1 x (by have := hM.2.1; omega)).trans (hM.2.2.1 x h1 h2), hM.2.2.2⟩ (by omega) (va_up_self _ _ _) (fun q hne => va_up_ne _ _ hne)
  have hz1 : k < 1 := (List.getElem?_eq_some_iff.mp hx).1
  rw [show k = 0 by omega] at hx
  cases hx
  exact ⟨_, hc, (u_born ty hts hin hKn hkC e1 hty).to hfs⟩
theorem g_newaI (hexec : p.tables.exec = Jvm.exec) (hb : c.code = cc) (hts : ∀ w ∈ wU, w.before args s = true) (harr : Cond.arrayClass .int ∈ wU) (hK : va_K g.1 vwCl (gT g) s) (hM : gH g b0 n f H0 H locs) (hz : H.size = b0 + n) {a : Nat} (ha : a = b0 + n) {z : Int} (N : Nat) (hn : z = ↑N) (hN : N ≤ 100000) (hcells : cells + 1 ≤ R.cells) (hslots : slots + N ≤ R.slots) (hdg : decode cc pc = .ok (.newarray .int, 2))
    (kk : ∀ (f1 : gF) (H1 : Heap), gH g b0 (n + 1) f1 H0 H1 locs → H1.size = b0 + (n + 1) → arI g f1 a N (fun _ => 0) → (∀ q, q ≠ a → f1 q = f q) → W p l e R s m args below meth c H1 locs (cells + 1) (slots + N) Q (F0 m (pc + 2) ls (.ref a :: rest))) : W p l e R s m args below meth c H locs cells slots Q (F0 m pc ls (.int (zI z) :: rest)) := by
  subst ha
  subst hn
  have hzi : (zI (↑N : Int)).toInt = ↑N := zI_toInt ⟨by omega, by omega⟩
  refine va_newaK hexec hb (atype := .int) (hts _ harr) rfl hdg rfl (fun h => ?_) (N := N) ?_ (cb_ok (by decide) hN) hcells hslots hz fun H1 cA e1 z1 o1 hAr hNm => ?_
  · rw [Int32.lt_iff_toInt_lt, hzi] at h
    exact absurd h (by simp)
  · exact zI_clamp (z := (↑N : Int)) (by omega) (by omega)
  · have hid : cA = g.2 1 := Option.some.inj (hNm.symm.trans (hK.2 1 _ rfl).2)
    subst hid
    refine kk _ H1 ⟨gM_push (en := .inl (g.2 1, N, .inl (fun _ => 0))) hM.1 o1 (fun k x hx => ?_), Nat.le_trans hM.2.1 (by omega), fun x h1 h2 => (o1 x (by have := hM.2.1; omega)).trans (hM.2.2.1 x h1 h2), hM.2.2.2⟩ (by omega) ⟨fun _ => 0, va_up_self _ _ _, fun k _ => zI_0⟩ (fun q hne => va_up_ne _ _ hne)
    have hz1 : k < 1 := (List.getElem?_eq_some_iff.mp hx).1
    rw [show k = 0 by omega] at hx
    cases hx
    exact e1
theorem g_newaJ (hexec : p.tables.exec = Jvm.exec) (hb : c.code = cc) (hts : ∀ w ∈ wU, w.before args s = true) (harr : Cond.arrayClass .long ∈ wU) (hK : va_K g.1 vwCl (gT g) s) (hM : gH g b0 n f H0 H locs) (hz : H.size = b0 + n) {a : Nat} (ha : a = b0 + n) {z : Int} (N : Nat) (hn : z = ↑N) (hN : N ≤ 100000) (hcells : cells + 1 ≤ R.cells) (hslots : slots + N ≤ R.slots) (hdg : decode cc pc = .ok (.newarray .long, 2))
    (kk : ∀ (f1 : gF) (H1 : Heap), gH g b0 (n + 1) f1 H0 H1 locs → H1.size = b0 + (n + 1) → arJ g f1 a N (fun _ => 0) → (∀ q, q ≠ a → f1 q = f q) → W p l e R s m args below meth c H1 locs (cells + 1) (slots + N) Q (F0 m (pc + 2) ls (.ref a :: rest))) : W p l e R s m args below meth c H locs cells slots Q (F0 m pc ls (.int (zI z) :: rest)) := by
  subst ha
  subst hn
  have hzi : (zI (↑N : Int)).toInt = ↑N := zI_toInt ⟨by omega, by omega⟩
  refine va_newaK hexec hb (atype := .long) (hts _ harr) rfl hdg rfl (fun h => ?_) (N := N) ?_ (cb_ok (by decide) hN) hcells hslots hz fun H1 cA e1 z1 o1 hAr hNm => ?_
  · rw [Int32.lt_iff_toInt_lt, hzi] at h
    exact absurd h (by simp)
  · exact zI_clamp (z := (↑N : Int)) (by omega) (by omega)
  · have hid : cA = g.2 2 := Option.some.inj (hNm.symm.trans (hK.2 2 _ rfl).2)
    subst hid
    refine kk _ H1 ⟨gM_push (en := .inl (g.2 2, N, .inr (.inl (fun _ => 0)))) hM.1 o1 (fun k x hx => ?_), Nat.le_trans hM.2.1 (by omega), fun x h1 h2 => (o1 x (by have := hM.2.1; omega)).trans (hM.2.2.1 x h1 h2), hM.2.2.2⟩ (by omega) ⟨fun _ => 0, va_up_self _ _ _, fun k _ => zL_0⟩ (fun q hne => va_up_ne _ _ hne)
    have hz1 : k < 1 := (List.getElem?_eq_some_iff.mp hx).1
    rw [show k = 0 by omega] at hx
    cases hx
    exact e1
theorem g_newaC (hexec : p.tables.exec = Jvm.exec) (hb : c.code = cc) (hts : ∀ w ∈ wU, w.before args s = true) (harr : Cond.arrayClass .char ∈ wU) (hK : va_K g.1 vwCl (gT g) s) (hM : gH g b0 n f H0 H locs) (hz : H.size = b0 + n) {a : Nat} (ha : a = b0 + n) {z : Int} (N : Nat) (hn : z = ↑N) (hN : N ≤ 100000) (hcells : cells + 1 ≤ R.cells) (hslots : slots + N ≤ R.slots) (hdg : decode cc pc = .ok (.newarray .char, 2))
    (kk : ∀ (f1 : gF) (H1 : Heap), gH g b0 (n + 1) f1 H0 H1 locs → H1.size = b0 + (n + 1) → arC g f1 a N (fun _ => 0) → (∀ q, q ≠ a → f1 q = f q) → W p l e R s m args below meth c H1 locs (cells + 1) (slots + N) Q (F0 m (pc + 2) ls (.ref a :: rest))) : W p l e R s m args below meth c H locs cells slots Q (F0 m pc ls (.int (zI z) :: rest)) := by
  subst ha
  subst hn
  have hzi : (zI (↑N : Int)).toInt = ↑N := zI_toInt ⟨by omega, by omega⟩
  refine va_newaK hexec hb (atype := .char) (hts _ harr) rfl hdg rfl (fun h => ?_) (N := N) ?_ (cb_ok (by decide) hN) hcells hslots hz fun H1 cA e1 z1 o1 hAr hNm => ?_
  · rw [Int32.lt_iff_toInt_lt, hzi] at h
    exact absurd h (by simp)
  · exact zI_clamp (z := (↑N : Int)) (by omega) (by omega)
  · have hid : cA = g.2 0 := Option.some.inj (hNm.symm.trans (hK.2 0 _ rfl).2)
    subst hid
    refine kk _ H1 ⟨gM_push (en := .inl (g.2 0, N, .inl (fun _ => 0))) hM.1 o1 (fun k x hx => ?_), Nat.le_trans hM.2.1 (by omega), fun x h1 h2 => (o1 x (by have := hM.2.1; omega)).trans (hM.2.2.1 x h1 h2), hM.2.2.2⟩ (by omega) ⟨fun _ => 0, va_up_self _ _ _, fun k _ => zI_0⟩ (fun q hne => va_up_ne _ _ hne)
    have hz1 : k < 1 := (List.getElem?_eq_some_iff.mp hx).1
    rw [show k = 0 by omega] at hx
    cases hx
    exact e1
theorem g_newaZ (hexec : p.tables.exec = Jvm.exec) (hb : c.code = cc) (hts : ∀ w ∈ wU, w.before args s = true) (harr : Cond.arrayClass .boolean ∈ wU) (hK : va_K g.1 vwCl (gT g) s) (hM : gH g b0 n f H0 H locs) (hz : H.size = b0 + n) {a : Nat} (ha : a = b0 + n) {z : Int} (N : Nat) (hn : z = ↑N) (hN : N ≤ 100000) (hcells : cells + 1 ≤ R.cells) (hslots : slots + N ≤ R.slots) (hdg : decode cc pc = .ok (.newarray .boolean, 2))
    (kk : ∀ (f1 : gF) (H1 : Heap), gH g b0 (n + 1) f1 H0 H1 locs → H1.size = b0 + (n + 1) → arZ g f1 a N (fun _ => 0) → (∀ q, q ≠ a → f1 q = f q) → W p l e R s m args below meth c H1 locs (cells + 1) (slots + N) Q (F0 m (pc + 2) ls (.ref a :: rest))) : W p l e R s m args below meth c H locs cells slots Q (F0 m pc ls (.int (zI z) :: rest)) := by
  subst ha
  subst hn
  have hzi : (zI (↑N : Int)).toInt = ↑N := zI_toInt ⟨by omega, by omega⟩
  refine va_newaK hexec hb (atype := .boolean) (hts _ harr) rfl hdg rfl (fun h => ?_) (N := N) ?_ (cb_ok (by decide) hN) hcells hslots hz fun H1 cA e1 z1 o1 hAr hNm => ?_
  · rw [Int32.lt_iff_toInt_lt, hzi] at h
    exact absurd h (by simp)
  · exact zI_clamp (z := (↑N : Int)) (by omega) (by omega)
  · have hid : cA = g.2 3 := Option.some.inj (hNm.symm.trans (hK.2 3 _ rfl).2)
    subst hid
    refine kk _ H1 ⟨gM_push (en := .inl (g.2 3, N, .inl (fun _ => 0))) hM.1 o1 (fun k x hx => ?_), Nat.le_trans hM.2.1 (by omega), fun x h1 h2 => (o1 x (by have := hM.2.1; omega)).trans (hM.2.2.1 x h1 h2), hM.2.2.2⟩ (by omega) ⟨fun _ => 0, va_up_self _ _ _, fun k _ => zI_0⟩ (fun q hne => va_up_ne _ _ hne)
    have hz1 : k < 1 := (List.getElem?_eq_some_iff.mp hx).1
    rw [show k = 0 by omega] at hx
    cases hx
    exact e1
end GNW
def cN (l : Launch) (y : MethodName) (cc : ByteArray) (mL fr lo mc ms : Nat) (av : List Value) (g : gE) (b0 n n1 : Nat) (f : gF) (post : gF → Prop) : Prop := Met l y (.code y cc mL none :: wU) { frames := fr, cells := mc, slots := ms, locals := lo } (va_Pc av (fun U => gB g b0 n f U ∧ U.heap.size = b0 + n)) (va_Qv post (fun f1 U => gB g b0 n1 f1 U ∧ U.heap.size = b0 + n1) (gA b0)) mc ms (gA b0)
theorem nPc_blind {av : List Value} {g : gE} {b0 n : Nat} {f : gF} : FrameBlind (va_Pc av (fun U => gB g b0 n f U ∧ U.heap.size = b0 + n)) := fun a U gg mk q => by
  obtain ⟨q0, q1, q2⟩ := q
  exact ⟨q0, (gPc_blind a U gg mk ⟨q0, q1⟩).2, q2⟩
theorem nPc_ok {av : List Value} {g : gE} {b0 n : Nat} {f : gF} {s U : State} {H H0 : Heap} {locs : List Loc} (hK : va_K g.1 vwCl (gT g) s) (hM : gH g b0 n f H0 H locs) (hz : H.size = b0 + n) (hU : U.heap = H) (hw : s.WarmedH U.vm) : va_Pc av (fun U => gB g b0 n f U ∧ U.heap.size = b0 + n) av.toArray U :=
  ⟨rfl, (gPc_ok (av := av) hK hM hU hw).2, by rw [hU]; exact hz⟩
theorem gs_n {l : Launch} {y : MethodName} {fr lo mc ms maxL : Nat} {av : List Value} {g : gE} {b0 n n1 : Nat} {f : gF} {cc : ByteArray} {post : gF → Prop} (hy : plainName y.cls = true) (hlen : (lg_sl av).length ≤ maxL) (body : ∀ (p : Program) (e : Env) (s : State) (m : MethodId) (args : Array Value) (below : List Frame) (meth : Method) (c : Code) (ls : Array Slot), p.tables.exec = Jvm.exec → c.code = cc → meth.sig.returnType = none → c.maxLocals = maxL → s.vm.findClass y.cls = some m.cls → meth.name = y.name → (∀ w ∈ wU, w.before args s = true) → meth.locks = false → va_K g.1 vwCl (gT g) s → gH g b0 n f s.heap s.heap [] → s.heap.size = b0 + n → lv_has ls maxL (lv_args 0 av) →
      W p l e { frames := fr, cells := mc, slots := ms, locals := lo } s m args below meth c s.heap [] 0 0 (MQ below (va_Qv post (fun f1 U => gB g b0 n1 f1 U ∧ U.heap.size = b0 + n1) (gA b0)) args s mc ms (gA b0)) (F0 m 0 ls [])) : cN l y cc maxL fr lo mc ms av g b0 n n1 f post := by
  refine Met.ofW (cc := cc) (maxL := maxL) (ret := none) hy rfl ?_
  intro p e s m args below meth c s₁ B hml hv
  obtain ⟨rfl, ⟨hM, hK⟩, hz⟩ := hv
  have hl := lv_entry av (n := maxL) hlen
  rw [lg_entry_eq]
  exact body p e s m _ below meth c _ B.exec B.bytes B.returns hml (findClass_of_methodNamed B.named) (name_of_methodNamed B.named B.method).1 (fun w hw => atoms_spec (ws := .code y cc maxL none :: wU) B.pre w (List.mem_cons_of_mem _ hw)) B.notSynchronized hK ⟨hM, va_S.rf⟩ hz hl

