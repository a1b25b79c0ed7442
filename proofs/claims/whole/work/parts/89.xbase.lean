/-! methods that return or throw -/
abbrev exN0 : String := "java/lang/IllegalArgumentException"
abbrev exN1 : String := "java/lang/IllegalStateException"
abbrev exN2 : String := "java/lang/IndexOutOfBoundsException"
abbrev exN3 : String := "java/util/NoSuchElementException"
abbrev exN4 : String := "java/lang/UnsupportedOperationException"
abbrev exN5 : String := "java/lang/ArithmeticException"
def exUp : List String := ["java/lang/RuntimeException", "java/lang/Exception"]
def exL : List String := [exN0, exN1, exN2, exN3, exN4, exN5]
def stL : List (Nat × String) := [(73, "no such part of the plan"), (80, "an argument is out of range"), (85, "there are as many as possible"), (88, "there is not enough money"), (164, "nothing was received"), (185, "the balance stays below the amount"), (206, "there are as many branches as possible"), (216, "no such branch"), (224, "the branch cannot be removed"), (233, "the branch cannot be merged"), (250, "a step would be refused"), (257, "no merge met a refused step"), (272, "there are no steps"), (280, "a later step would be refused"), (286, "the input is full"), (307, "nothing was saved"), (309, "no such part")]
def exW : List Cond := exL.map (fun x => Cond.castable x x) ++ (Bundle.tN :: exUp).map (fun y => Cond.declares (Bundle.initS y))
def exK (w : Cond) : Bool := match w with
  | .castable _ _ => true
  | .declares _ => true
  | _ => false
theorem exK_warm {w : Cond} {s U : State} (hk : exK w = true) (hW : s.WarmedH U.vm) (h : va_Nw w s) : va_Nw w U := by
  cases w <;> first
    | exact absurd (show false = true from hk) Bool.false_ne_true
    | exact va_tabs rfl (rfl : (s.setVm U.vm).vm = U.vm) (by rw [Cond.castable_setVm hW.alike]; exact h)
    | exact va_tabs rfl (rfl : (s.setVm U.vm).vm = U.vm) (by rw [Cond.declares_setVm hW.alike]; exact h)
/-- what a throw needs to be so: two statics of Throwable, the texts, some words -/
def xW (b0 : Nat) (U : State) (H : Heap) : Prop := (vx_Zq Bundle.tN "UNASSIGNED_STACK" Bundle.steD (gA b0) U H ∧ vx_Zq Bundle.tN "SUPPRESSED_SENTINEL" Bundle.listD (gA b0) U H) ∧ (∀ q ∈ stL, ∃ sa : Nat, vk_R RX8 q.1 q.2 sa U) ∧ (∀ w ∈ exW, va_Nw w U) ∧ ∀ x ∈ exL, ∀ y ∈ exL, x ≠ y → va_Nc x y U
theorem xW.warm {b0 : Nat} {s U : State} {H H1 : Heap} (hW : s.WarmedH U.vm) (hq : ∀ a : Nat, a < H.size → ¬ gA b0 a → H1[a]? = H[a]?) (h : xW b0 s H) : xW b0 U H1 := by
  obtain ⟨⟨h1, h2⟩, h3, h4, h5⟩ := h
  refine ⟨⟨vx_Zq.moved hW.alike (h1.kept hq), vx_Zq.moved hW.alike (h2.kept hq)⟩, fun q hq => ?_, fun w hw => ?_, fun x hx y hy hne => ?_⟩
  · obtain ⟨sa, h⟩ := h3 q hq
    exact ⟨sa, vk_R.warm hW h⟩
  · exact exK_warm (List.all_eq_true.mp (by decide : exW.all exK = true) w hw) hW (h4 w hw)
  · exact va_Nc.moved hW.alike (h5 x hx y hy hne)
/-- the way in -/
def xPc (av : List Value) (g : gE) (b0 n : Nat) (f : gF) : Array Value → State → Prop := fun a U => va_Pc av (gB g b0 n f) a U ∧ xW b0 U U.heap
theorem xPc_blind {av : List Value} {g : gE} {b0 n : Nat} {f : gF} : FrameBlind (xPc av g b0 n f) := fun a U gg mk q => by
  obtain ⟨q0, q1⟩ := q
  exact ⟨gPc_blind a U gg mk q0, xW.warm (s := U) (U := U.calling gg mk a) (State.WarmedH.refl U) (fun _ _ _ => rfl) q1⟩
theorem xPc_ok {av : List Value} {g : gE} {b0 n : Nat} {f : gF} {s U : State} {H : Heap} {locs : List Loc} (hK : va_K g.1 vwCl (gT g) s) (hM : gH g b0 n f s.heap H locs) (hE : xW b0 s s.heap) (hU : U.heap = H) (hw : s.WarmedH U.vm) : xPc av g b0 n f av.toArray U :=
  ⟨gPc_ok hK hM hU hw, xW.warm hw (fun a h1 h2 => by rw [hU]; exact hM.2.2.1 a h1 h2) hE⟩
/-- the way out by a throw: its class, the memory -/
def xX (px : String → gF → Prop) (g : gE) (b0 n : Nat) : String → State → State → Prop := vx_X (fun _ : gF => True) (fun E u t => px E u ∧ gB g b0 n u t) (gA b0)
def cxI (l : Launch) (y : MethodName) (cc : ByteArray) (mL : Nat) (rt : Option FieldType) (fr lo mc : Nat) (av : List Value) (g : gE) (b0 n : Nat) (f : gF) (post : Int32 → gF → Prop) (px : String → gF → Prop) : Prop := vx_Met l y (.code y cc mL rt :: wU) { frames := fr, cells := mc, slots := 6 * mc, locals := lo } (xPc av g b0 n f) (va_Qi post (gB g b0 n) (gA b0)) (xX px g b0 n) mc (6 * mc) (gA b0)
def cxL (l : Launch) (y : MethodName) (cc : ByteArray) (mL : Nat) (rt : Option FieldType) (fr lo mc : Nat) (av : List Value) (g : gE) (b0 n : Nat) (f : gF) (post : Int64 → gF → Prop) (px : String → gF → Prop) : Prop := vx_Met l y (.code y cc mL rt :: wU) { frames := fr, cells := mc, slots := 6 * mc, locals := lo } (xPc av g b0 n f) (va_Ql post (gB g b0 n) (gA b0)) (xX px g b0 n) mc (6 * mc) (gA b0)
def cxV (l : Launch) (y : MethodName) (cc : ByteArray) (mL : Nat) (rt : Option FieldType) (fr lo mc : Nat) (av : List Value) (g : gE) (b0 n : Nat) (f : gF) (post : gF → Prop) (px : String → gF → Prop) : Prop := vx_Met l y (.code y cc mL rt :: wU) { frames := fr, cells := mc, slots := 6 * mc, locals := lo } (xPc av g b0 n f) (va_Qv post (gB g b0 n) (gA b0)) (xX px g b0 n) mc (6 * mc) (gA b0)
def cxD (l : Launch) (y : MethodName) (cc : ByteArray) (mL : Nat) (rt : Option FieldType) (fr lo mc : Nat) (av : List Value) (g : gE) (b0 n : Nat) (f : gF) (post : UInt64 → gF → Prop) (px : String → gF → Prop) : Prop := vx_Met l y (.code y cc mL rt :: wU) { frames := fr, cells := mc, slots := 6 * mc, locals := lo } (xPc av g b0 n f) (va_Qd post (gB g b0 n) (gA b0)) (xX px g b0 n) mc (6 * mc) (gA b0)
theorem cuBx {R : Room} {s : State} {args : Array Value} {own : String} {index : Nat} {y : MethodName} {bytes : ByteArray} {maxL n : Nat} {ret : Option FieldType} {fr lo mc : Nat} (ht : ∀ w ∈ wU, w.before args s = true) (hc : Cond.code y bytes maxL ret ∈ wU) (hl : Cond.methodLink own index y ∈ wU) (hini : Cond.initialized y.cls ∈ wU) (hd : cuD y n) (hR : fr + 1 ≤ R.frames ∧ 8 + (maxL + 11) + lo ≤ R.locals) : CallB R s args own index y bytes maxL ret (.code y bytes maxL ret :: wU) { frames := fr, cells := mc, slots := 6 * mc, locals := lo } mc (6 * mc) n := by
  refine ⟨rfl, rfl, hR.1, hR.2, gU_pay ht hc, List.mem_cons_self, ht _ hc, ht _ hini, ⟨hd.1, hd.2.1⟩, fun sig h => ?_, ht _ hl⟩
  have h2 := hd.2.2
  rw [h] at h2
  exact (Option.some.inj h2).symm
theorem cuVx {R : Room} {s : State} {args : Array Value} {own C : String} {index : Nat} {y : MethodName} {bytes : ByteArray} {maxL n : Nat} {ret : Option FieldType} {fr lo mc : Nat} (ht : ∀ w ∈ wU, w.before args s = true) (hc : Cond.code y bytes maxL ret ∈ wU) (hl : Cond.methodLink own index y ∈ wU) (hini : Cond.initialized y.cls ∈ wU) (hd : cuD y n) (hi : Cond.instanceMethod y ∈ wU) (hs : Cond.selects C y y ∈ wU) (hR : fr + 1 ≤ R.frames ∧ 8 + (maxL + 11) + lo ≤ R.locals) : CallW R s args own C index y bytes maxL ret (.code y bytes maxL ret :: wU) { frames := fr, cells := mc, slots := 6 * mc, locals := lo } mc (6 * mc) n :=
  ⟨cuBx ht hc hl hini hd hR, ht _ hi, ht _ hs⟩
theorem cuSx {R : Room} {s : State} {args : Array Value} {own : String} {index : Nat} {y : MethodName} {bytes : ByteArray} {maxL n : Nat} {ret : Option FieldType} {fr lo mc : Nat} (ht : ∀ w ∈ wU, w.before args s = true) (hc : Cond.code y bytes maxL ret ∈ wU) (hl : Cond.methodLink own index y ∈ wU) (hini : Cond.initialized y.cls ∈ wU) (hd : cuD y n) (hi : Cond.static y ∈ wU) (hR : fr + 1 ≤ R.frames ∧ 8 + (maxL + 11) + lo ≤ R.locals) : CallB R s args own index y bytes maxL ret (.code y bytes maxL ret :: wU) { frames := fr, cells := mc, slots := 6 * mc, locals := lo } mc (6 * mc) n ∧ (Cond.static y).before args s = true :=
  ⟨cuBx ht hc hl hini hd hR, ht _ hi⟩
section XC
variable {p : Program} {l : Launch} {e : Env} {R : Room} {s : State} {m : MethodId} {args : Array Value} {below : List Frame} {meth : Method} {c : Code} {H : Heap} {locs : List Loc} {cells slots : Nat} {Q : State → Prop}
variable {cc : ByteArray} {pc : Nat} {ls : Array Slot} {rest st : List Value} {g : gE} {b0 n : Nat} {f : gF}
theorem gx_callVi {own C : String} {T : u_T} {N ci index nL maxL nA fr lo mc : Nat} {y : MethodName} {bytes : ByteArray} {ret : Option FieldType} {b : Nat} {fs As : List Value} {post : Int32 → gF → Prop} {px : String → gF → Prop} (S : CallFix p m c cc nL s args wU own) (hK : va_K g.1 vwCl (gT g) s) (hM : gH g b0 n f s.heap H locs) (hE : xW b0 s s.heap) (hC : cxI l y bytes maxL ret fr lo mc (.ref b :: As) g b0 n f post px)
    (cw : CallW R s args own C index y bytes maxL ret (.code y bytes maxL ret :: wU) { frames := fr, cells := mc, slots := 6 * mc, locals := lo } mc (6 * mc) nA) (ha : b0 ≤ b ∧ b < b0 + n) (he : f b = .inr (ci, fs)) (hc : vwCl[ci]? = some (C, T, N)) (hn : As.length = nA) (hls : ls.size = nL) (hst : st = As.reverse ++ .ref b :: rest) (hroom : (rest.map fun v => v.category).sum ≤ 8) (hdg : decode cc pc = .ok (.invokevirtual index, 3)) (hf : cells + mc ≤ R.cells ∧ slots + 6 * mc ≤ R.slots)
    (kx : ∀ (E : String) (ce : Cell) (q9 : Addr) (f1 : gF) (H1 : Heap) (locs1 : List Loc), gH g b0 n f1 s.heap H1 locs1 → px E f1 → H1[q9]? = some ce → ce.vm = .none → s.vm.findClass E = some ce.cls → vx_W p l e R s m args below meth c H1 locs1 (cells + mc) (slots + 6 * mc) Q (F0 m pc ls rest) q9)
    (kk : ∀ (r : Int32) (f1 : gF) (H1 : Heap) (locs1 : List Loc), gH g b0 n f1 s.heap H1 locs1 → post r f1 → W p l e R s m args below meth c H1 locs1 (cells + mc) (slots + 6 * mc) Q (F0 m (pc + 3) ls (.int r :: rest))) : W p l e R s m args below meth c H locs cells slots Q (F0 m pc ls st) :=
  vx_calli (vx_runV (As := As) (rest := rest) S hC cw ⟨xPc_blind, g_recv hK hM ha he hc, fun U hU hw => xPc_ok hK hM hE hU hw⟩ rfl hn hls hst (lv_room (m := m) (pc := pc) (ls := ls) (rest := st) hroom) hdg hf) hM.2 (fun q _ h => h) (fun q h => h) (fun q _ h => h)
    (fun E ce q9 u t H1 locs1 ht _ _ hB _ _ hS h1 h2 h3 => kx E ce q9 u H1 locs1 ⟨by rw [← ht]; exact hB.2.1, hS⟩ hB.1 h1 h2 h3)
    (fun r u t H1 locs1 ht _ hp hB _ _ hS => kk r u H1 locs1 ⟨by rw [← ht]; exact hB.1, hS⟩ hp)
theorem gx_callSi {own : String} {index nL maxL nA fr lo mc : Nat} {y : MethodName} {bytes : ByteArray} {ret : Option FieldType} {As : List Value} {post : Int32 → gF → Prop} {px : String → gF → Prop} (S : CallFix p m c cc nL s args wU own) (hK : va_K g.1 vwCl (gT g) s) (hM : gH g b0 n f s.heap H locs) (hE : xW b0 s s.heap) (hC : cxI l y bytes maxL ret fr lo mc As g b0 n f post px)
    (cw : CallB R s args own index y bytes maxL ret (.code y bytes maxL ret :: wU) { frames := fr, cells := mc, slots := 6 * mc, locals := lo } mc (6 * mc) nA ∧ (Cond.static y).before args s = true) (hn : As.length = nA) (hls : ls.size = nL) (hst : st = As.reverse ++ rest) (hroom : (rest.map fun v => v.category).sum ≤ 8) (hdg : decode cc pc = .ok (.invokestatic index, 3)) (hf : cells + mc ≤ R.cells ∧ slots + 6 * mc ≤ R.slots)
    (kx : ∀ (E : String) (ce : Cell) (q9 : Addr) (f1 : gF) (H1 : Heap) (locs1 : List Loc), gH g b0 n f1 s.heap H1 locs1 → px E f1 → H1[q9]? = some ce → ce.vm = .none → s.vm.findClass E = some ce.cls → vx_W p l e R s m args below meth c H1 locs1 (cells + mc) (slots + 6 * mc) Q (F0 m pc ls rest) q9)
    (kk : ∀ (r : Int32) (f1 : gF) (H1 : Heap) (locs1 : List Loc), gH g b0 n f1 s.heap H1 locs1 → post r f1 → W p l e R s m args below meth c H1 locs1 (cells + mc) (slots + 6 * mc) Q (F0 m (pc + 3) ls (.int r :: rest))) : W p l e R s m args below meth c H locs cells slots Q (F0 m pc ls st) :=
  vx_calli (vx_runS (As := As) (rest := rest) S hC cw ⟨xPc_blind, fun U hU hw => xPc_ok hK hM hE hU hw⟩ rfl hn hls hst (lv_room (m := m) (pc := pc) (ls := ls) (rest := st) hroom) hdg hf) hM.2 (fun q _ h => h) (fun q h => h) (fun q _ h => h)
    (fun E ce q9 u t H1 locs1 ht _ _ hB _ _ hS h1 h2 h3 => kx E ce q9 u H1 locs1 ⟨by rw [← ht]; exact hB.2.1, hS⟩ hB.1 h1 h2 h3)
    (fun r u t H1 locs1 ht _ hp hB _ _ hS => kk r u H1 locs1 ⟨by rw [← ht]; exact hB.1, hS⟩ hp)
theorem gx_callVv {own C : String} {T : u_T} {N ci index nL maxL nA fr lo mc : Nat} {y : MethodName} {bytes : ByteArray} {ret : Option FieldType} {b : Nat} {fs As : List Value} {post : gF → Prop} {px : String → gF → Prop} (S : CallFix p m c cc nL s args wU own) (hK : va_K g.1 vwCl (gT g) s) (hM : gH g b0 n f s.heap H locs) (hE : xW b0 s s.heap) (hC : cxV l y bytes maxL ret fr lo mc (.ref b :: As) g b0 n f post px)
    (cw : CallW R s args own C index y bytes maxL ret (.code y bytes maxL ret :: wU) { frames := fr, cells := mc, slots := 6 * mc, locals := lo } mc (6 * mc) nA) (ha : b0 ≤ b ∧ b < b0 + n) (he : f b = .inr (ci, fs)) (hc : vwCl[ci]? = some (C, T, N)) (hn : As.length = nA) (hls : ls.size = nL) (hst : st = As.reverse ++ .ref b :: rest) (hroom : (rest.map fun v => v.category).sum ≤ 8) (hdg : decode cc pc = .ok (.invokevirtual index, 3)) (hf : cells + mc ≤ R.cells ∧ slots + 6 * mc ≤ R.slots)
    (kx : ∀ (E : String) (ce : Cell) (q9 : Addr) (f1 : gF) (H1 : Heap) (locs1 : List Loc), gH g b0 n f1 s.heap H1 locs1 → px E f1 → H1[q9]? = some ce → ce.vm = .none → s.vm.findClass E = some ce.cls → vx_W p l e R s m args below meth c H1 locs1 (cells + mc) (slots + 6 * mc) Q (F0 m pc ls rest) q9)
    (kk : ∀ (f1 : gF) (H1 : Heap) (locs1 : List Loc), gH g b0 n f1 s.heap H1 locs1 → post f1 → W p l e R s m args below meth c H1 locs1 (cells + mc) (slots + 6 * mc) Q (F0 m (pc + 3) ls rest)) : W p l e R s m args below meth c H locs cells slots Q (F0 m pc ls st) :=
  vx_callv (vx_runV (As := As) (rest := rest) S hC cw ⟨xPc_blind, g_recv hK hM ha he hc, fun U hU hw => xPc_ok hK hM hE hU hw⟩ rfl hn hls hst (lv_room (m := m) (pc := pc) (ls := ls) (rest := st) hroom) hdg hf) hM.2 (fun q _ h => h) (fun q h => h) (fun q _ h => h)
    (fun E ce q9 u t H1 locs1 ht _ _ hB _ _ hS h1 h2 h3 => kx E ce q9 u H1 locs1 ⟨by rw [← ht]; exact hB.2.1, hS⟩ hB.1 h1 h2 h3)
    (fun u t H1 locs1 ht _ hp hB _ _ hS => kk u H1 locs1 ⟨by rw [← ht]; exact hB.1, hS⟩ hp)
theorem gx_callSv {own : String} {index nL maxL nA fr lo mc : Nat} {y : MethodName} {bytes : ByteArray} {ret : Option FieldType} {As : List Value} {post : gF → Prop} {px : String → gF → Prop} (S : CallFix p m c cc nL s args wU own) (hK : va_K g.1 vwCl (gT g) s) (hM : gH g b0 n f s.heap H locs) (hE : xW b0 s s.heap) (hC : cxV l y bytes maxL ret fr lo mc As g b0 n f post px)
    (cw : CallB R s args own index y bytes maxL ret (.code y bytes maxL ret :: wU) { frames := fr, cells := mc, slots := 6 * mc, locals := lo } mc (6 * mc) nA ∧ (Cond.static y).before args s = true) (hn : As.length = nA) (hls : ls.size = nL) (hst : st = As.reverse ++ rest) (hroom : (rest.map fun v => v.category).sum ≤ 8) (hdg : decode cc pc = .ok (.invokestatic index, 3)) (hf : cells + mc ≤ R.cells ∧ slots + 6 * mc ≤ R.slots)
    (kx : ∀ (E : String) (ce : Cell) (q9 : Addr) (f1 : gF) (H1 : Heap) (locs1 : List Loc), gH g b0 n f1 s.heap H1 locs1 → px E f1 → H1[q9]? = some ce → ce.vm = .none → s.vm.findClass E = some ce.cls → vx_W p l e R s m args below meth c H1 locs1 (cells + mc) (slots + 6 * mc) Q (F0 m pc ls rest) q9)
    (kk : ∀ (f1 : gF) (H1 : Heap) (locs1 : List Loc), gH g b0 n f1 s.heap H1 locs1 → post f1 → W p l e R s m args below meth c H1 locs1 (cells + mc) (slots + 6 * mc) Q (F0 m (pc + 3) ls rest)) : W p l e R s m args below meth c H locs cells slots Q (F0 m pc ls st) :=
  vx_callv (vx_runS (As := As) (rest := rest) S hC cw ⟨xPc_blind, fun U hU hw => xPc_ok hK hM hE hU hw⟩ rfl hn hls hst (lv_room (m := m) (pc := pc) (ls := ls) (rest := st) hroom) hdg hf) hM.2 (fun q _ h => h) (fun q h => h) (fun q _ h => h)
    (fun E ce q9 u t H1 locs1 ht _ _ hB _ _ hS h1 h2 h3 => kx E ce q9 u H1 locs1 ⟨by rw [← ht]; exact hB.2.1, hS⟩ hB.1 h1 h2 h3)
    (fun u t H1 locs1 ht _ hp hB _ _ hS => kk u H1 locs1 ⟨by rw [← ht]; exact hB.1, hS⟩ hp)
theorem gx_callVl {own C : String} {T : u_T} {N ci index nL maxL nA fr lo mc : Nat} {y : MethodName} {bytes : ByteArray} {ret : Option FieldType} {b : Nat} {fs As : List Value} {post : Int64 → gF → Prop} {px : String → gF → Prop} (S : CallFix p m c cc nL s args wU own) (hK : va_K g.1 vwCl (gT g) s) (hM : gH g b0 n f s.heap H locs) (hE : xW b0 s s.heap) (hC : cxL l y bytes maxL ret fr lo mc (.ref b :: As) g b0 n f post px)
    (cw : CallW R s args own C index y bytes maxL ret (.code y bytes maxL ret :: wU) { frames := fr, cells := mc, slots := 6 * mc, locals := lo } mc (6 * mc) nA) (ha : b0 ≤ b ∧ b < b0 + n) (he : f b = .inr (ci, fs)) (hc : vwCl[ci]? = some (C, T, N)) (hn : As.length = nA) (hls : ls.size = nL) (hst : st = As.reverse ++ .ref b :: rest) (hroom : (rest.map fun v => v.category).sum ≤ 8) (hdg : decode cc pc = .ok (.invokevirtual index, 3)) (hf : cells + mc ≤ R.cells ∧ slots + 6 * mc ≤ R.slots)
    (kx : ∀ (E : String) (ce : Cell) (q9 : Addr) (f1 : gF) (H1 : Heap) (locs1 : List Loc), gH g b0 n f1 s.heap H1 locs1 → px E f1 → H1[q9]? = some ce → ce.vm = .none → s.vm.findClass E = some ce.cls → vx_W p l e R s m args below meth c H1 locs1 (cells + mc) (slots + 6 * mc) Q (F0 m pc ls rest) q9)
    (kk : ∀ (r : Int64) (f1 : gF) (H1 : Heap) (locs1 : List Loc), gH g b0 n f1 s.heap H1 locs1 → post r f1 → W p l e R s m args below meth c H1 locs1 (cells + mc) (slots + 6 * mc) Q (F0 m (pc + 3) ls (.long r :: rest))) : W p l e R s m args below meth c H locs cells slots Q (F0 m pc ls st) :=
  vx_calll (vx_runV (As := As) (rest := rest) S hC cw ⟨xPc_blind, g_recv hK hM ha he hc, fun U hU hw => xPc_ok hK hM hE hU hw⟩ rfl hn hls hst (lv_room (m := m) (pc := pc) (ls := ls) (rest := st) hroom) hdg hf) hM.2 (fun q _ h => h) (fun q h => h) (fun q _ h => h)
    (fun E ce q9 u t H1 locs1 ht _ _ hB _ _ hS h1 h2 h3 => kx E ce q9 u H1 locs1 ⟨by rw [← ht]; exact hB.2.1, hS⟩ hB.1 h1 h2 h3)
    (fun r u t H1 locs1 ht _ hp hB _ _ hS => kk r u H1 locs1 ⟨by rw [← ht]; exact hB.1, hS⟩ hp)
theorem gx_callSl {own : String} {index nL maxL nA fr lo mc : Nat} {y : MethodName} {bytes : ByteArray} {ret : Option FieldType} {As : List Value} {post : Int64 → gF → Prop} {px : String → gF → Prop} (S : CallFix p m c cc nL s args wU own) (hK : va_K g.1 vwCl (gT g) s) (hM : gH g b0 n f s.heap H locs) (hE : xW b0 s s.heap) (hC : cxL l y bytes maxL ret fr lo mc As g b0 n f post px)
    (cw : CallB R s args own index y bytes maxL ret (.code y bytes maxL ret :: wU) { frames := fr, cells := mc, slots := 6 * mc, locals := lo } mc (6 * mc) nA ∧ (Cond.static y).before args s = true) (hn : As.length = nA) (hls : ls.size = nL) (hst : st = As.reverse ++ rest) (hroom : (rest.map fun v => v.category).sum ≤ 8) (hdg : decode cc pc = .ok (.invokestatic index, 3)) (hf : cells + mc ≤ R.cells ∧ slots + 6 * mc ≤ R.slots)
    (kx : ∀ (E : String) (ce : Cell) (q9 : Addr) (f1 : gF) (H1 : Heap) (locs1 : List Loc), gH g b0 n f1 s.heap H1 locs1 → px E f1 → H1[q9]? = some ce → ce.vm = .none → s.vm.findClass E = some ce.cls → vx_W p l e R s m args below meth c H1 locs1 (cells + mc) (slots + 6 * mc) Q (F0 m pc ls rest) q9)
    (kk : ∀ (r : Int64) (f1 : gF) (H1 : Heap) (locs1 : List Loc), gH g b0 n f1 s.heap H1 locs1 → post r f1 → W p l e R s m args below meth c H1 locs1 (cells + mc) (slots + 6 * mc) Q (F0 m (pc + 3) ls (.long r :: rest))) : W p l e R s m args below meth c H locs cells slots Q (F0 m pc ls st) :=
  vx_calll (vx_runS (As := As) (rest := rest) S hC cw ⟨xPc_blind, fun U hU hw => xPc_ok hK hM hE hU hw⟩ rfl hn hls hst (lv_room (m := m) (pc := pc) (ls := ls) (rest := st) hroom) hdg hf) hM.2 (fun q _ h => h) (fun q h => h) (fun q _ h => h)
    (fun E ce q9 u t H1 locs1 ht _ _ hB _ _ hS h1 h2 h3 => kx E ce q9 u H1 locs1 ⟨by rw [← ht]; exact hB.2.1, hS⟩ hB.1 h1 h2 h3)
    (fun r u t H1 locs1 ht _ hp hB _ _ hS => kk r u H1 locs1 ⟨by rw [← ht]; exact hB.1, hS⟩ hp)
theorem gx_pass {Qc : Array Value → State → Outcome → State → Prop} {px : String → gF → Prop} {E : String} {ce : Cell} {q9 : Addr} {mc ms : Nat} (hex : ∀ x ∈ c.exceptionTable.toList, False) (hlk : meth.locks = false) (hK : va_K g.1 vwCl (gT g) s) (hM : gH g b0 n f s.heap H locs) (hp : px E f) (h1 : H[q9]? = some ce) (h2 : ce.vm = .none) (h3 : s.vm.findClass E = some ce.cls) (hc : cells ≤ mc) (hs : slots ≤ ms) :
    vx_W p l e R s m args below meth c H locs cells slots (vx_MQ below Qc (xX px g b0 n) args s mc ms (gA b0)) (F0 m pc ls rest) q9 :=
  vx_out (fun x hx => absurd hx (hex x)) hlk h1 h2 h3 (fun t ht hw => ⟨f, trivial, ⟨hp, by rw [ht]; exact hM.1, va_K.moved hw hK⟩, hM.2.F ht⟩) hM.2.2.2 hc hs
theorem gx_end {px : String → gF → Prop} {cls : String} (hK : va_K g.1 vwCl (gT g) s) (hM : gH g b0 n f s.heap H locs) (hp : px cls f) : ∀ t : State, s.vm.Alike t.vm → H.size ≤ t.heap.size → (∀ q : Nat, q < H.size → t.heap[q]? = H[q]?) → xX px g b0 n cls s t := fun t ha hz hq =>
  ⟨f, trivial, ⟨hp, va_P.kept hM.1 (fun k q hk => hq q.1 (vx_lt hM.1 hk)), va_K.moved ha hK⟩, Nat.le_trans hM.2.1 hz, fun q h1 h2 => (hq q (Nat.lt_of_lt_of_le h1 hM.2.1)).trans (hM.2.2.1 q h1 h2)⟩
theorem gx_words {cls : String} {ik ic : Nat} (hts : ∀ w ∈ wU, w.before args s = true) (hE : xW b0 s s.heap) (h1 : ((vx_atS RX8 ic cls exUp).filter goodWord).all (fun w => decide (w ∈ wU)) = true) (h2 : ((vx_atS RX8 ic cls exUp).filter (fun w => !goodWord w)).all (fun w => decide (w ∈ exW)) = true) : ∀ w ∈ vx_atS RX8 ic cls exUp, w.before args s = true :=
  vx_hat (B := exW) (fun w hw => hts w (of_decide_eq_true (List.all_eq_true.mp h1 w hw))) (fun w hw => of_decide_eq_true (List.all_eq_true.mp h2 w hw)) (fun w hw => va_tabs (by revert w; exact List.all_eq_true.mp (by decide : exW.all (fun w => w.onTables) = true)) rfl (hE.2.2.1 w hw))
theorem gx_throwS {Qc : Array Value → State → Outcome → State → Prop} {px : String → gF → Prop} {cls text : String} {ik ic is mc ms : Nat} (hexec : p.tables.exec = Jvm.exec) (hb : c.code = cc) (hl9 : l.stackTraces = false) (hown : s.vm.findClass RX8 = some m.cls) (hlk : meth.locks = false) (hts : ∀ w ∈ wU, w.before args s = true) (hex : ∀ x ∈ c.exceptionTable.toList, False) (hE : xW b0 s s.heap) (hK : va_K g.1 vwCl (gT g) s) (hM : gH g b0 n f s.heap H locs) (hsize : ls.size = c.maxLocals)
    (hcls : Bundle.fit cls = true) (hk : Cond.classLink RX8 ik cls ∈ wU) (hini : Cond.initialized cls ∈ wU) (hstr : (is, text) ∈ stL) (hat : ∀ (args : Array Value) (s : State), (∀ w ∈ wU, w.before args s = true) → xW b0 s s.heap → ∀ w ∈ vx_atS RX8 ic cls exUp, w.before args s = true) (hgood : (Cond.classLink RX8 ik cls :: Cond.initialized cls :: vx_atS RX8 ic cls exUp).all vx_ot = true)
    (d0 : decode cc pc = .ok (.new ik, 3)) (d3 : decode cc (pc + 3) = .ok (.dup, 1)) (d4 : decode cc (pc + 4) = .ok (.ldc is, 2)) (d6 : decode cc (pc + 6) = .ok (.invokespecial ic, 3)) (d9 : decode cc (pc + 9) = .ok (.athrow, 1)) (hR : 5 < R.frames ∧ (rest.map fun v => v.category).sum + 82 ≤ R.locals ∧ cells + 1 ≤ R.cells ∧ slots + 6 ≤ R.slots) (hc : cells + 1 ≤ mc) (hs : slots + 6 ≤ ms) (hp : px cls f) :
    W p l e R s m args below meth c H locs cells slots (vx_MQ below Qc (xX px g b0 n) args s mc ms (gA b0)) (F0 m pc ls rest) := by
  obtain ⟨sa, hsa⟩ := hE.2.1 _ hstr
  exact vx_throwS hexec hb hl9 hown hcls (by decide) (hts _ hk) (hts _ hini) hsa (hat args s hts hE) (List.all_eq_true.mp hgood) hE.1.1 hE.1.2 hM.2 hsize d0 d3 d4 d6 d9 (fun x hx => absurd hx (hex x)) hR.1 hR.2.1 hR.2.2.1 hR.2.2.2 hlk (gx_end hK hM hp) hM.2.2.2 hc hs
theorem gx_throwSW {Qc : Array Value → State → Outcome → State → Prop} {px : String → gF → Prop} {cls text : String} {ik ic is mc ms : Nat} (hexec : p.tables.exec = Jvm.exec) (hb : c.code = cc) (hl9 : l.stackTraces = false) (hown : s.vm.findClass RX8 = some m.cls) (hlk : meth.locks = false) (hts : ∀ w ∈ wU, w.before args s = true) (hex : ∀ x ∈ c.exceptionTable.toList, False) (hE : xW b0 s s.heap) (hK : va_K g.1 vwCl (gT g) s) (hM : gH g b0 n f s.heap H locs) (hsize : ls.size = c.maxLocals)
    (hcls : Bundle.fit cls = true) (hk : Cond.classLink RX8 ik cls ∈ wU) (hini : Cond.initialized cls ∈ wU) (hstr : (is, text) ∈ stL) (hat : ∀ (args : Array Value) (s : State), (∀ w ∈ wU, w.before args s = true) → xW b0 s s.heap → ∀ w ∈ vx_atS RX8 ic cls exUp, w.before args s = true) (hgood : (Cond.classLink RX8 ik cls :: Cond.initialized cls :: vx_atS RX8 ic cls exUp).all vx_ot = true)
    (d0 : decode cc pc = .ok (.new ik, 3)) (d3 : decode cc (pc + 3) = .ok (.dup, 1)) (d4 : decode cc (pc + 4) = .ok (.ldc_w is, 3)) (d7 : decode cc (pc + 7) = .ok (.invokespecial ic, 3)) (d10 : decode cc (pc + 10) = .ok (.athrow, 1)) (hR : 5 < R.frames ∧ (rest.map fun v => v.category).sum + 82 ≤ R.locals ∧ cells + 1 ≤ R.cells ∧ slots + 6 ≤ R.slots) (hc : cells + 1 ≤ mc) (hs : slots + 6 ≤ ms) (hp : px cls f) :
    W p l e R s m args below meth c H locs cells slots (vx_MQ below Qc (xX px g b0 n) args s mc ms (gA b0)) (F0 m pc ls rest) := by
  obtain ⟨sa, hsa⟩ := hE.2.1 _ hstr
  exact vx_throwSW hexec hb hl9 hown hcls (by decide) (hts _ hk) (hts _ hini) hsa (hat args s hts hE) (List.all_eq_true.mp hgood) hE.1.1 hE.1.2 hM.2 hsize d0 d3 d4 d7 d10 (fun x hx => absurd hx (hex x)) hR.1 hR.2.1 hR.2.2.1 hR.2.2.2 hlk (gx_end hK hM hp) hM.2.2.2 hc hs
theorem gx_iret {v : Int32} {post : Int32 → gF → Prop} {XC : String → State → State → Prop} {mc ms : Nat} (hexec : p.tables.exec = Jvm.exec) (hb : c.code = cc) (hr : meth.sig.returnType = (some .int)) (hlk : meth.locks = false) (hK : va_K g.1 vwCl (gT g) s) (hM : gH g b0 n f s.heap H locs) (hdg : decode cc pc = .ok (.ireturn, 1)) (hc : cells ≤ mc) (hs : slots ≤ ms) (hp : post v f) : W p l e R s m args below meth c H locs cells slots (vx_MQ below (va_Qi post (gB g b0 n) (gA b0)) XC args s mc ms (gA b0)) (F0 m pc ls [.int v]) := fun T hT X =>
  vx_ret (W.iret hexec hb hr (fun t ht hw => by
    have hB : gB g b0 n f t := ⟨by rw [ht]; exact hM.1, va_K.moved hw.alike hK⟩
    exact ⟨⟨v, f, rfl, hp, hB⟩, hM.2.F ht⟩) hM.2.2.2 hdg hlk) T hT (stand_widen X hc hs)
theorem gx_lret {v : Int64} {post : Int64 → gF → Prop} {XC : String → State → State → Prop} {mc ms : Nat} (hexec : p.tables.exec = Jvm.exec) (hb : c.code = cc) (hr : meth.sig.returnType = (some .long)) (hlk : meth.locks = false) (hK : va_K g.1 vwCl (gT g) s) (hM : gH g b0 n f s.heap H locs) (hdg : decode cc pc = .ok (.lreturn, 1)) (hc : cells ≤ mc) (hs : slots ≤ ms) (hp : post v f) : W p l e R s m args below meth c H locs cells slots (vx_MQ below (va_Ql post (gB g b0 n) (gA b0)) XC args s mc ms (gA b0)) (F0 m pc ls [.long v]) := fun T hT X =>
  vx_ret (W.lret hexec hb hr (fun t ht hw => by
    have hB : gB g b0 n f t := ⟨by rw [ht]; exact hM.1, va_K.moved hw.alike hK⟩
    exact ⟨⟨v, f, rfl, hp, hB⟩, hM.2.F ht⟩) hM.2.2.2 hdg hlk) T hT (stand_widen X hc hs)
theorem gx_vret {post : gF → Prop} {XC : String → State → State → Prop} {mc ms : Nat} (hexec : p.tables.exec = Jvm.exec) (hb : c.code = cc) (hr : meth.sig.returnType = none) (hlk : meth.locks = false) (hK : va_K g.1 vwCl (gT g) s) (hM : gH g b0 n f s.heap H locs) (hdg : decode cc pc = .ok (.return_, 1)) (hc : cells ≤ mc) (hs : slots ≤ ms) (hp : post f) : W p l e R s m args below meth c H locs cells slots (vx_MQ below (va_Qv post (gB g b0 n) (gA b0)) XC args s mc ms (gA b0)) (F0 m pc ls []) := fun T hT X =>
  vx_ret (W.vret hexec hb hr (fun t ht hw => by
    have hB : gB g b0 n f t := ⟨by rw [ht]; exact hM.1, va_K.moved hw.alike hK⟩
    exact ⟨⟨f, rfl, hp, hB⟩, hM.2.F ht⟩) hM.2.2.2 hdg hlk) T hT (stand_widen X hc hs)
end XC
theorem xk_0 {b0 : Nat} : ∀ (args : Array Value) (s : State), (∀ w ∈ wU, w.before args s = true) → xW b0 s s.heap → ∀ w ∈ vx_atS RX8 82 exN0 exUp, w.before args s = true := fun args s hts hE => gx_words (ik := 78) hts hE (by decide +kernel) (by decide +kernel)
theorem xg_0 : (Cond.classLink RX8 78 exN0 :: Cond.initialized exN0 :: vx_atS RX8 82 exN0 exUp).all vx_ot = true := by decide +kernel
theorem xk_1 {b0 : Nat} : ∀ (args : Array Value) (s : State), (∀ w ∈ wU, w.before args s = true) → xW b0 s s.heap → ∀ w ∈ vx_atS RX8 87 exN1 exUp, w.before args s = true := fun args s hts hE => gx_words (ik := 83) hts hE (by decide +kernel) (by decide +kernel)
theorem xg_1 : (Cond.classLink RX8 83 exN1 :: Cond.initialized exN1 :: vx_atS RX8 87 exN1 exUp).all vx_ot = true := by decide +kernel
theorem xk_2 {b0 : Nat} : ∀ (args : Array Value) (s : State), (∀ w ∈ wU, w.before args s = true) → xW b0 s s.heap → ∀ w ∈ vx_atS RX8 75 exN2 exUp, w.before args s = true := fun args s hts hE => gx_words (ik := 71) hts hE (by decide +kernel) (by decide +kernel)
theorem xg_2 : (Cond.classLink RX8 71 exN2 :: Cond.initialized exN2 :: vx_atS RX8 75 exN2 exUp).all vx_ot = true := by decide +kernel
theorem xk_4 {b0 : Nat} : ∀ (args : Array Value) (s : State), (∀ w ∈ wU, w.before args s = true) → xW b0 s s.heap → ∀ w ∈ vx_atS RX8 252 exN4 exUp, w.before args s = true := fun args s hts hE => gx_words (ik := 248) hts hE (by decide +kernel) (by decide +kernel)
theorem xg_4 : (Cond.classLink RX8 248 exN4 :: Cond.initialized exN4 :: vx_atS RX8 252 exN4 exUp).all vx_ot = true := by decide +kernel
theorem xk_5 {b0 : Nat} : ∀ (args : Array Value) (s : State), (∀ w ∈ wU, w.before args s = true) → xW b0 s s.heap → ∀ w ∈ vx_atS RX8 166 exN5 exUp, w.before args s = true := fun args s hts hE => gx_words (ik := 162) hts hE (by decide +kernel) (by decide +kernel)
theorem xg_5 : (Cond.classLink RX8 162 exN5 :: Cond.initialized exN5 :: vx_atS RX8 166 exN5 exUp).all vx_ot = true := by decide +kernel
section GXE
variable {l : Launch} {y : MethodName} {fr lo mc maxL : Nat} {av : List Value} {g : gE} {b0 n : Nat} {f : gF} {cc : ByteArray} {ret : Option FieldType} {px : String → gF → Prop}
theorem gs_xi {post : Int32 → gF → Prop} (hy : plainName y.cls = true) (hlen : (lg_sl av).length ≤ maxL) (body : ∀ (p : Program) (e : Env) (s : State) (m : MethodId) (args : Array Value) (below : List Frame) (meth : Method) (c : Code) (ls : Array Slot), p.tables.exec = Jvm.exec → c.code = cc → meth.sig.returnType = ret → c.maxLocals = maxL → s.vm.findClass y.cls = some m.cls → (∀ w ∈ wU, w.before args s = true) → meth.locks = false → (∀ x ∈ c.exceptionTable.toList, False) → xW b0 s s.heap → va_K g.1 vwCl (gT g) s → gH g b0 n f s.heap s.heap [] → lv_has ls maxL (lv_args 0 av) →
      W p l e { frames := fr, cells := mc, slots := 6 * mc, locals := lo } s m args below meth c s.heap [] 0 0 (vx_MQ below (va_Qi post (gB g b0 n) (gA b0)) (xX px g b0 n) args s mc (6 * mc) (gA b0)) (F0 m 0 ls [])) : cxI l y cc maxL ret fr lo mc av g b0 n f post px := by
  refine vx_ofW (cc := cc) (maxL := maxL) (ret := ret) hy rfl ?_
  intro p e s m args below meth c s₁ B hml hex hv
  obtain ⟨⟨rfl, hM, hK⟩, hE⟩ := hv
  have hl := lv_entry av (n := maxL) hlen
  rw [lg_entry_eq]
  exact body p e s m _ below meth c _ B.exec B.bytes B.returns hml (findClass_of_methodNamed B.named) (fun w hw => atoms_spec (ws := .code y cc maxL ret :: wU) B.pre w (List.mem_cons_of_mem _ hw)) B.notSynchronized hex hE hK ⟨hM, va_S.rf⟩ hl
theorem gs_xl {post : Int64 → gF → Prop} (hy : plainName y.cls = true) (hlen : (lg_sl av).length ≤ maxL) (body : ∀ (p : Program) (e : Env) (s : State) (m : MethodId) (args : Array Value) (below : List Frame) (meth : Method) (c : Code) (ls : Array Slot), p.tables.exec = Jvm.exec → c.code = cc → meth.sig.returnType = ret → c.maxLocals = maxL → s.vm.findClass y.cls = some m.cls → (∀ w ∈ wU, w.before args s = true) → meth.locks = false → (∀ x ∈ c.exceptionTable.toList, False) → xW b0 s s.heap → va_K g.1 vwCl (gT g) s → gH g b0 n f s.heap s.heap [] → lv_has ls maxL (lv_args 0 av) →
      W p l e { frames := fr, cells := mc, slots := 6 * mc, locals := lo } s m args below meth c s.heap [] 0 0 (vx_MQ below (va_Ql post (gB g b0 n) (gA b0)) (xX px g b0 n) args s mc (6 * mc) (gA b0)) (F0 m 0 ls [])) : cxL l y cc maxL ret fr lo mc av g b0 n f post px := by
  refine vx_ofW (cc := cc) (maxL := maxL) (ret := ret) hy rfl ?_
  intro p e s m args below meth c s₁ B hml hex hv
  obtain ⟨⟨rfl, hM, hK⟩, hE⟩ := hv
  have hl := lv_entry av (n := maxL) hlen
  rw [lg_entry_eq]
  exact body p e s m _ below meth c _ B.exec B.bytes B.returns hml (findClass_of_methodNamed B.named) (fun w hw => atoms_spec (ws := .code y cc maxL ret :: wU) B.pre w (List.mem_cons_of_mem _ hw)) B.notSynchronized hex hE hK ⟨hM, va_S.rf⟩ hl
theorem gs_xv {post : gF → Prop} (hy : plainName y.cls = true) (hlen : (lg_sl av).length ≤ maxL) (body : ∀ (p : Program) (e : Env) (s : State) (m : MethodId) (args : Array Value) (below : List Frame) (meth : Method) (c : Code) (ls : Array Slot), p.tables.exec = Jvm.exec → c.code = cc → meth.sig.returnType = ret → c.maxLocals = maxL → s.vm.findClass y.cls = some m.cls → (∀ w ∈ wU, w.before args s = true) → meth.locks = false → (∀ x ∈ c.exceptionTable.toList, False) → xW b0 s s.heap → va_K g.1 vwCl (gT g) s → gH g b0 n f s.heap s.heap [] → lv_has ls maxL (lv_args 0 av) →
      W p l e { frames := fr, cells := mc, slots := 6 * mc, locals := lo } s m args below meth c s.heap [] 0 0 (vx_MQ below (va_Qv post (gB g b0 n) (gA b0)) (xX px g b0 n) args s mc (6 * mc) (gA b0)) (F0 m 0 ls [])) : cxV l y cc maxL ret fr lo mc av g b0 n f post px := by
  refine vx_ofW (cc := cc) (maxL := maxL) (ret := ret) hy rfl ?_
  intro p e s m args below meth c s₁ B hml hex hv
  obtain ⟨⟨rfl, hM, hK⟩, hE⟩ := hv
  have hl := lv_entry av (n := maxL) hlen
  rw [lg_entry_eq]
  exact body p e s m _ below meth c _ B.exec B.bytes B.returns hml (findClass_of_methodNamed B.named) (fun w hw => atoms_spec (ws := .code y cc maxL ret :: wU) B.pre w (List.mem_cons_of_mem _ hw)) B.notSynchronized hex hE hK ⟨hM, va_S.rf⟩ hl
end GXE
