/-! the law's helpers: each calls, catches, and always returns -/
theorem gU_payW {args : Array Value} {s : State} {y : MethodName} {bytes : ByteArray} {maxL : Nat} {ret : Option FieldType} {hh : List (Nat × Nat × Nat × Nat)} (ht : ∀ w ∈ wU, w.before args s = true) (hc : Cond.codeWith y bytes maxL ret hh ∈ wU) : ∀ w ∈ (Cond.codeWith y bytes maxL ret hh :: wU), ∀ (a' : Array Value) (U : State), s.WarmedH U.vm → w.before a' U = true := by
  intro w hw a' U hU
  have hm : w ∈ wU := by
    rcases List.mem_cons.mp hw with h | h
    · rw [h]; exact hc
    · exact h
  have hb := ht w hm
  have hk : gOk w = true := (List.mem_filter.mp hm).2
  simp only [gOk, Bool.or_eq_true] at hk
  rcases hk with hk | hk
  · exact word_at hU (good_of_word hk) hb
  · cases w <;> simp [gNs] at hk
    · exact va_Nw.use rfl (va_Nw.warmM hU (va_Nw.of rfl hb))
    · exact va_Nw.use rfl (va_Nw.warmF hU (va_Nw.of rfl hb))
def cH (l : Launch) (y : MethodName) (cc : ByteArray) (mL : Nat) (hh : List (Nat × Nat × Nat × Nat)) (fr lo mc : Nat) (av : List Value) (g : gE) (b0 n : Nat) (f : gF) (post : Int32 → gF → Prop) : Prop := vx_Met l y (.codeWith y cc mL (some .int) hh :: wU) { frames := fr, cells := mc, slots := 6 * mc, locals := lo } (xPc av g b0 n f) (va_Qi post (gB g b0 n) (gA b0)) (xX (fun _ _ => False) g b0 n) mc (6 * mc) (gA b0)
theorem cuH {R : Room} {s : State} {args : Array Value} {own : String} {index : Nat} {y : MethodName} {bytes : ByteArray} {maxL n : Nat} {hh : List (Nat × Nat × Nat × Nat)} {fr lo mc : Nat} (ht : ∀ w ∈ wU, w.before args s = true) (hc : Cond.codeWith y bytes maxL (some .int) hh ∈ wU) (hl : Cond.methodLink own index y ∈ wU) (hini : Cond.initialized y.cls ∈ wU) (hd : cuD y n) (hi : Cond.static y ∈ wU) (hR : fr + 1 ≤ R.frames ∧ 8 + (maxL + 11) + lo ≤ R.locals) : vx_CSW R s args own index y bytes maxL (some .int) hh (.codeWith y bytes maxL (some .int) hh :: wU) { frames := fr, cells := mc, slots := 6 * mc, locals := lo } mc (6 * mc) n := by
  refine ⟨⟨rfl, rfl, hR.1, hR.2, gU_payW ht hc, List.mem_cons_self⟩, ht _ hc, ht _ hini, ⟨hd.1, hd.2.1⟩, fun sig h => ?_, ht _ hl, ht _ hi⟩
  have h2 := hd.2.2
  rw [h] at h2
  exact (Option.some.inj h2).symm
section HC
variable {p : Program} {l : Launch} {e : Env} {R : Room} {s : State} {m : MethodId} {args : Array Value} {below : List Frame} {meth : Method} {c : Code} {H : Heap} {locs : List Loc} {cells slots : Nat} {Q : State → Prop}
variable {cc : ByteArray} {pc : Nat} {ls : Array Slot} {rest st : List Value} {g : gE} {b0 n : Nat} {f : gF}
theorem gh_callS {own : String} {index nL maxL nA fr lo mc : Nat} {y : MethodName} {bytes : ByteArray} {hh : List (Nat × Nat × Nat × Nat)} {As : List Value} {post : Int32 → gF → Prop} (S : CallFix p m c cc nL s args wU own) (hK : va_K g.1 vwCl (gT g) s) (hM : gH g b0 n f s.heap H locs) (hE : xW b0 s s.heap) (hC : cH l y bytes maxL hh fr lo mc As g b0 n f post)
    (cw : vx_CSW R s args own index y bytes maxL (some .int) hh (.codeWith y bytes maxL (some .int) hh :: wU) { frames := fr, cells := mc, slots := 6 * mc, locals := lo } mc (6 * mc) nA) (hn : As.length = nA) (hls : ls.size = nL) (hst : st = As.reverse ++ rest) (hroom : (rest.map fun v => v.category).sum ≤ 8) (hdg : decode cc pc = .ok (.invokestatic index, 3)) (hf : cells + mc ≤ R.cells ∧ slots + 6 * mc ≤ R.slots)
    (kk : ∀ (r : Int32) (f1 : gF) (H1 : Heap) (locs1 : List Loc), gH g b0 n f1 s.heap H1 locs1 → post r f1 → W p l e R s m args below meth c H1 locs1 (cells + mc) (slots + 6 * mc) Q (F0 m (pc + 3) ls (.int r :: rest))) : W p l e R s m args below meth c H locs cells slots Q (F0 m pc ls st) :=
  vx_calli (vx_runSX (As := As) (rest := rest) S hC cw ⟨xPc_blind, fun U hU hw => xPc_ok hK hM hE hU hw⟩ rfl hn hls hst (lv_room (m := m) (pc := pc) (ls := ls) (rest := st) hroom) hdg hf) hM.2 (fun q _ h => h) (fun q h => h) (fun q _ h => h)
    (fun E ce q9 u t H1 locs1 ht _ _ hB _ _ hS h1 h2 h3 => hB.1.elim)
    (fun r u t H1 locs1 ht _ hp hB _ _ hS => kk r u H1 locs1 ⟨by rw [← ht]; exact hB.1, hS⟩ hp)
theorem gx_callVd {own C : String} {T : u_T} {N ci index nL maxL nA fr lo mc : Nat} {y : MethodName} {bytes : ByteArray} {ret : Option FieldType} {b : Nat} {fs As : List Value} {post : UInt64 → gF → Prop} {px : String → gF → Prop} (S : CallFix p m c cc nL s args wU own) (hK : va_K g.1 vwCl (gT g) s) (hM : gH g b0 n f s.heap H locs) (hE : xW b0 s s.heap) (hC : cxD l y bytes maxL ret fr lo mc (.ref b :: As) g b0 n f post px)
    (cw : CallW R s args own C index y bytes maxL ret (.code y bytes maxL ret :: wU) { frames := fr, cells := mc, slots := 6 * mc, locals := lo } mc (6 * mc) nA) (ha : b0 ≤ b ∧ b < b0 + n) (he : f b = .inr (ci, fs)) (hc : vwCl[ci]? = some (C, T, N)) (hn : As.length = nA) (hls : ls.size = nL) (hst : st = As.reverse ++ .ref b :: rest) (hroom : (rest.map fun v => v.category).sum ≤ 8) (hdg : decode cc pc = .ok (.invokevirtual index, 3)) (hf : cells + mc ≤ R.cells ∧ slots + 6 * mc ≤ R.slots)
    (kx : ∀ (E : String) (ce : Cell) (q9 : Addr) (f1 : gF) (H1 : Heap) (locs1 : List Loc), gH g b0 n f1 s.heap H1 locs1 → px E f1 → H1[q9]? = some ce → ce.vm = .none → s.vm.findClass E = some ce.cls → vx_W p l e R s m args below meth c H1 locs1 (cells + mc) (slots + 6 * mc) Q (F0 m pc ls rest) q9)
    (kk : ∀ (r : UInt64) (f1 : gF) (H1 : Heap) (locs1 : List Loc), gH g b0 n f1 s.heap H1 locs1 → post r f1 → W p l e R s m args below meth c H1 locs1 (cells + mc) (slots + 6 * mc) Q (F0 m (pc + 3) ls (.double r :: rest))) : W p l e R s m args below meth c H locs cells slots Q (F0 m pc ls st) :=
  vx_calld (vx_runV (As := As) (rest := rest) S hC cw ⟨xPc_blind, g_recv hK hM ha he hc, fun U hU hw => xPc_ok hK hM hE hU hw⟩ rfl hn hls hst (lv_room (m := m) (pc := pc) (ls := ls) (rest := st) hroom) hdg hf) hM.2 (fun q _ h => h) (fun q h => h) (fun q _ h => h)
    (fun E ce q9 u t H1 locs1 ht _ _ hB _ _ hS h1 h2 h3 => kx E ce q9 u H1 locs1 ⟨by rw [← ht]; exact hB.2.1, hS⟩ hB.1 h1 h2 h3)
    (fun r u t H1 locs1 ht _ hp hB _ _ hS => kk r u H1 locs1 ⟨by rw [← ht]; exact hB.1, hS⟩ hp)
theorem g_callVd {own C : String} {T : u_T} {N ci index nL maxL nA fr lo : Nat} {y : MethodName} {bytes : ByteArray} {ret : Option FieldType} {b : Nat} {fs As : List Value} {post : UInt64 → gF → Prop} (S : CallFix p m c cc nL s args wU own) (hK : va_K g.1 vwCl (gT g) s) (hM : gH g b0 n f s.heap H locs) (hC : cD l y bytes maxL ret fr lo (.ref b :: As) g b0 n f post)
    (cw : CallW R s args own C index y bytes maxL ret (.code y bytes maxL ret :: wU) { frames := fr, cells := 0, slots := 0, locals := lo } 0 0 nA) (ha : b0 ≤ b ∧ b < b0 + n) (he : f b = .inr (ci, fs)) (hc : vwCl[ci]? = some (C, T, N)) (hn : As.length = nA) (hls : ls.size = nL) (hst : st = As.reverse ++ .ref b :: rest) (hroom : (rest.map fun v => v.category).sum ≤ 8) (hdg : decode cc pc = .ok (.invokevirtual index, 3)) (hf : cells ≤ R.cells ∧ slots ≤ R.slots)
    (kk : ∀ (r : UInt64) (f1 : gF) (H1 : Heap) (locs1 : List Loc), gH g b0 n f1 s.heap H1 locs1 → post r f1 → W p l e R s m args below meth c H1 locs1 cells slots Q (F0 m (pc + 3) ls (.double r :: rest))) : W p l e R s m args below meth c H locs cells slots Q (F0 m pc ls st) :=
  va_calld (va_runV (As := As) (rest := rest) S hC cw ⟨gPc_blind, g_recv hK hM ha he hc, fun U hU hw => gPc_ok hK hM hU hw⟩ rfl hn hls hst (lv_room (m := m) (pc := pc) (ls := ls) (rest := st) hroom) hdg ⟨hf.1, hf.2⟩) hM.2 (fun q _ h => h) (fun q h => h) (fun r u t H1 locs1 ht _ hp hB _ _ hS => kk r u H1 locs1 ⟨by rw [← ht]; exact hB.1, hS⟩ hp)
/-- caught here -/
theorem gh_catch {p1 p2 : List (Nat × Nat × Nat × Nat)} {x : Nat × Nat × Nat × Nat} {E : String} {ce : Cell} {q9 : Addr} (hown : s.vm.findClass RL = some m.cls) (hts : ∀ w ∈ wU, w.before args s = true) (hE : xW b0 s s.heap) (htab : c.exceptionTable.toList = tableOf (p1 ++ x :: p2)) (hin : E ∈ exL) (hpre : ∀ z ∈ p1, z.2.2.2 ≠ 0 ∧ ∃ nm ∈ exL, E ≠ nm ∧ Cond.classLink RL z.2.2.2 nm ∈ wU)
    (hx : covers ⟨x.1, x.2.1, x.2.2.1, x.2.2.2⟩ pc = true) (h0 : x.2.2.2 ≠ 0) (hlink : Cond.classLink RL x.2.2.2 E ∈ wU) (h1 : H[q9]? = some ce) (h2 : ce.vm = .none) (h3 : s.vm.findClass E = some ce.cls)
    (kk : W p l e R s m args below meth c H locs cells slots Q (F0 m x.2.2.1 ls [.ref q9])) : vx_W p l e R s m args below meth c H locs cells slots Q (F0 m pc ls rest) q9 := by
  refine vx_catch (name := E) hown (p1.map (fun q => (⟨q.1, q.2.1, q.2.2.1, q.2.2.2⟩ : ExceptionTableEntry))) ⟨x.1, x.2.1, x.2.2.1, x.2.2.2⟩ (p2.map (fun q => (⟨q.1, q.2.1, q.2.2.1, q.2.2.2⟩ : ExceptionTableEntry))) (by rw [htab]; unfold tableOf; rw [List.map_append, List.map_cons]) (fun z hz => ?_) hx h0 (hts _ hlink) ?_ h1 h2 h3 kk
  · obtain ⟨z9, hz9, rfl⟩ := List.mem_map.mp hz
    obtain ⟨k0, nm, k1, k2, k3⟩ := hpre z9 hz9
    exact Or.inr ⟨k0, nm, hts _ k3, hE.2.2.2 E hin nm k1 k2⟩
  · have hm : Cond.castable E E ∈ exW := List.mem_append_left _ (List.mem_map.mpr ⟨E, hin, rfl⟩)
    exact va_tabs rfl rfl (hE.2.2.1 _ hm)
def arD (g : gE) (f : gF) (a n : Nat) (A : Nat → UInt64) : Prop := ∃ B : Nat → UInt64, f a = .inl (g.2 5, n, .inr (.inr (.inr (.inl B)))) ∧ ∀ k, k < n → B k = A k
theorem arD.kept {f' : gF} {a n : Nat} {A : Nat → UInt64} (h : arD g f a n A) (e : f' a = f a) : arD g f' a n A := by obtain ⟨B, h1, h2⟩ := h; exact ⟨B, e.trans h1, h2⟩
theorem arD.cong {a n : Nat} {A A' : Nat → UInt64} (h : arD g f a n A) (e : ∀ k, k < n → A k = A' k) : arD g f a n A' := by obtain ⟨B, h1, h2⟩ := h; exact ⟨B, h1, fun k hk => by rw [h2 k hk, e k hk]⟩
theorem g_dald {a : Nat} {H0 : Heap} (hexec : p.tables.exec = Jvm.exec) (hb : c.code = cc) (hK : va_K g.1 vwCl (gT g) s) (hM : gH g b0 n f H0 H locs) (ha : b0 ≤ a ∧ a < b0 + n) {N : Nat} {A : Nat → UInt64} (hA : arD g f a N A) {z : Int} (h0 : 0 ≤ z) (h1 : z < N) (hN : N < 2147483648) (hdg : decode cc pc = .ok (.daload, 1))
    (kk : W p l e R s m args below meth c H locs cells slots Q (F0 m (pc + 1) ls (.double (A z.toNat) :: rest))) : W p l e R s m args below meth c H locs cells slots Q (F0 m pc ls (.int (zI z) :: .ref a :: rest)) := by
  obtain ⟨q0, hq⟩ := gM_at f ha
  obtain ⟨B, hB, hv⟩ := hA
  rw [hB] at hq
  refine va_dald hexec hb hK hM.1 q0 5 hq rfl (zI_in h0 h1 hN) hdg ?_
  rw [zI_clamp h0 (by omega), hv z.toNat (by omega)]
  exact kk
theorem g_dast {a : Nat} {H0 : Heap} (hexec : p.tables.exec = Jvm.exec) (hb : c.code = cc) (hK : va_K g.1 vwCl (gT g) s) (hM : gH g b0 n f H0 H locs) (ha : b0 ≤ a ∧ a < b0 + n) {N : Nat} {A : Nat → UInt64} (hA : arD g f a N A) {z : Int} {x : UInt64} (h0 : 0 ≤ z) (h1 : z < N) (hN : N < 2147483648) (hdg : decode cc pc = .ok (.dastore, 1))
    (kk : ∀ (f1 : gF) (H1 : Heap) (locs1 : List Loc), gH g b0 n f1 H0 H1 locs1 → arD g f1 a N (fun k => if k = z.toNat then x else A k) → (∀ q, q ≠ a → f1 q = f q) → W p l e R s m args below meth c H1 locs1 cells slots Q (F0 m (pc + 1) ls rest)) : W p l e R s m args below meth c H locs cells slots Q (F0 m pc ls (.double x :: .int (zI z) :: .ref a :: rest)) := by
  obtain ⟨q0, hq⟩ := gM_at f ha
  obtain ⟨B, hB, hv⟩ := hA
  have hq2 := hq
  rw [hB] at hq2
  refine va_dast hexec hb hK hM.1 (gD b0 n f) hM.2 q0 5 hq2 rfl (zI_in h0 h1 hN) hdg (fun H1 locs1 hP _ hS => kk _ H1 locs1 ⟨gM_up ha hq hP, hS⟩ ⟨_, va_up_self _ _ _, fun k hk => ?_⟩ (fun q hne => va_up_ne _ _ hne))
  rw [zI_clamp h0 (by omega)]
  by_cases e9 : k = z.toNat
  · subst e9; simp [vf_upd]
  · simp [vf_upd, e9, hv k hk]
theorem g_newaD {H0 : Heap} (hexec : p.tables.exec = Jvm.exec) (hb : c.code = cc) (hts : ∀ w ∈ wU, w.before args s = true) (harr : Cond.arrayClass .double ∈ wU) (hK : va_K g.1 vwCl (gT g) s) (hM : gH g b0 n f H0 H locs) (hz : H.size = b0 + n) {a : Nat} (ha : a = b0 + n) {z : Int} (N : Nat) (hn : z = ↑N) (hN : N ≤ 100000) (hcells : cells + 1 ≤ R.cells) (hslots : slots + N ≤ R.slots) (hdg : decode cc pc = .ok (.newarray .double, 2))
    (kk : ∀ (f1 : gF) (H1 : Heap), gH g b0 (n + 1) f1 H0 H1 locs → H1.size = b0 + (n + 1) → (∃ A, arD g f1 a N A) → (∀ q, q ≠ a → f1 q = f q) → W p l e R s m args below meth c H1 locs (cells + 1) (slots + N) Q (F0 m (pc + 2) ls (.ref a :: rest))) : W p l e R s m args below meth c H locs cells slots Q (F0 m pc ls (.int (zI z) :: rest)) := by
  subst ha
  subst hn
  have hzi : (zI (↑N : Int)).toInt = ↑N := zI_toInt ⟨by omega, by omega⟩
  refine va_newaK hexec hb (atype := .double) (hts _ harr) rfl hdg rfl (fun h => ?_) (N := N) ?_ (cb_ok (by decide) hN) hcells hslots hz fun H1 cA e1 z1 o1 hAr hNm => ?_
  · rw [Int32.lt_iff_toInt_lt, hzi] at h
    exact absurd h (by simp)
  · exact zI_clamp (z := (↑N : Int)) (by omega) (by omega)
  · have hid : cA = g.2 5 := Option.some.inj (hNm.symm.trans (hK.2 5 _ rfl).2)
    subst hid
    refine kk _ H1 ⟨gM_push (en := .inl (g.2 5, N, .inr (.inr (.inr (.inl (fun _ => 0)))))) hM.1 o1 (fun k x hx => ?_), Nat.le_trans hM.2.1 (by omega), fun x h1 h2 => (o1 x (by have := hM.2.1; omega)).trans (hM.2.2.1 x h1 h2), hM.2.2.2⟩ (by omega) ⟨fun _ => 0, ⟨fun _ => 0, va_up_self _ _ _, fun k _ => rfl⟩⟩ (fun q hne => va_up_ne _ _ hne)
    have hz1 : k < 1 := (List.getElem?_eq_some_iff.mp hx).1
    rw [show k = 0 by omega] at hx
    cases hx
    exact e1
end HC
section HG
variable {l : Launch} {y : MethodName} {fr lo mc maxL : Nat} {av : List Value} {g : gE} {b0 n : Nat} {f : gF} {cc : ByteArray} {hh : List (Nat × Nat × Nat × Nat)}
theorem gs_h {post : Int32 → gF → Prop} (hy : plainName y.cls = true) (hlen : (lg_sl av).length ≤ maxL) (body : ∀ (p : Program) (e : Env) (s : State) (m : MethodId) (args : Array Value) (below : List Frame) (meth : Method) (c : Code) (ls : Array Slot), p.tables.exec = Jvm.exec → c.code = cc → meth.sig.returnType = some .int → c.maxLocals = maxL → s.vm.findClass y.cls = some m.cls → (∀ w ∈ wU, w.before args s = true) → meth.locks = false → c.exceptionTable.toList = tableOf hh → xW b0 s s.heap → va_K g.1 vwCl (gT g) s → gH g b0 n f s.heap s.heap [] → lv_has ls maxL (lv_args 0 av) →
      W p l e { frames := fr, cells := mc, slots := 6 * mc, locals := lo } s m args below meth c s.heap [] 0 0 (vx_MQ below (va_Qi post (gB g b0 n) (gA b0)) (xX (fun _ _ => False) g b0 n) args s mc (6 * mc) (gA b0)) (F0 m 0 ls [])) : cH l y cc maxL hh fr lo mc av g b0 n f post := by
  refine vx_ofWH (cc := cc) (maxL := maxL) (ret := some .int) (hh := hh) hy rfl ?_
  intro p e s m args below meth c s₁ B hml hv
  obtain ⟨⟨rfl, hM, hK⟩, hE⟩ := hv
  have hl := lv_entry av (n := maxL) hlen
  rw [lg_entry_eq]
  exact body p e s m _ below meth c _ B.exec B.bytes B.returns hml (findClass_of_methodNamed B.named) (fun w hw => atoms_spec (ws := .codeWith y cc maxL (some .int) hh :: wU) B.pre w (List.mem_cons_of_mem _ hw)) B.notSynchronized (vx_table (x := y) (y := y) B (atoms_spec (ws := .codeWith y cc maxL (some .int) hh :: wU) B.pre _ List.mem_cons_self)) hE hK ⟨hM, va_S.rf⟩ hl
end HG
/-- the ways out of a helper -/
def hQx (px : String → gF → Prop) (k : Int32) (f1 : gF) : Nat → List String → Prop
  | _, [] => False
  | i, E :: t => (k = zI ↑(i + 1) ∧ px E f1) ∨ hQx px k f1 (i + 1) t
def hQ (g : gE) (ao : Nat) (post : Int → gF → Prop) (px : String → gF → Prop) (tab : List String) : Int32 → gF → Prop := fun k f1 => (k = zI 0 ∧ ∃ (z : Int) (fm : gF), post z fm ∧ arJ g f1 ao 1 (fun _ => z) ∧ ∀ q, q ≠ ao → f1 q = fm q) ∨ hQx px k f1 0 tab
def hQd (g : gE) (ao : Nat) (post : UInt64 → gF → Prop) (px : String → gF → Prop) (tab : List String) : Int32 → gF → Prop := fun k f1 => (k = zI 0 ∧ ∃ (z : UInt64) (fm : gF), post z fm ∧ arD g f1 ao 1 (fun _ => z) ∧ ∀ q, q ≠ ao → f1 q = fm q) ∨ hQx px k f1 0 tab
