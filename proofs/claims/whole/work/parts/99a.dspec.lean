/-! doubles -/
theorem dv_ok {x y : Int64} (hy : y ≠ 0) : vf_n64 (FP.ddiv (FP.l2d x) (FP.l2d y)) := Jvm.Free.Fl.noNaN64_no.mpr (FP.Core.ddiv_out (FP.Core.l2d_fin x).notNaN (FP.Core.l2d_fin y) (fun hz => FP.Core.l2d_ne_zero hy ((FP.Core.zero_bits2 _).mp hz)))
theorem zL_nz {z : Int} (h : rL z) (hz : z ≠ 0) : zL z ≠ 0 := fun e => hz (by
  have h1 := zL_toInt h
  rw [e] at h1
  exact h1.symm)
def cD (l : Launch) (y : MethodName) (cc : ByteArray) (mL : Nat) (rt : Option FieldType) (fr lo : Nat) (av : List Value) (g : gE) (b0 n : Nat) (f : gF) (post : UInt64 → gF → Prop) : Prop := Met l y (.code y cc mL rt :: wU) { frames := fr, cells := 0, slots := 0, locals := lo } (va_Pc av (gB g b0 n f)) (va_Qd post (gB g b0 n) (gA b0)) 0 0 (gA b0)
section GDE
variable {l : Launch} {y : MethodName} {fr lo mc maxL : Nat} {av : List Value} {g : gE} {b0 n : Nat} {f : gF} {cc : ByteArray} {ret : Option FieldType} {px : String → gF → Prop}
theorem gs_d {post : UInt64 → gF → Prop} (hy : plainName y.cls = true) (hlen : (lg_sl av).length ≤ maxL) (body : ∀ (p : Program) (e : Env) (s : State) (m : MethodId) (args : Array Value) (below : List Frame) (meth : Method) (c : Code) (ls : Array Slot), p.tables.exec = Jvm.exec → c.code = cc → meth.sig.returnType = ret → c.maxLocals = maxL → s.vm.findClass y.cls = some m.cls → (∀ w ∈ wU, w.before args s = true) → meth.locks = false → va_K g.1 vwCl (gT g) s → gH g b0 n f s.heap s.heap [] → lv_has ls maxL (lv_args 0 av) →
      W p l e { frames := fr, cells := 0, slots := 0, locals := lo } s m args below meth c s.heap [] 0 0 (MQ below (va_Qd post (gB g b0 n) (gA b0)) args s 0 0 (gA b0)) (F0 m 0 ls [])) : cD l y cc maxL ret fr lo av g b0 n f post := by
  refine Met.ofW (cc := cc) (maxL := maxL) (ret := ret) hy rfl ?_
  intro p e s m args below meth c s₁ B hml hv
  obtain ⟨rfl, hM, hK⟩ := hv
  have hl := lv_entry av (n := maxL) hlen
  rw [lg_entry_eq]
  exact body p e s m _ below meth c _ B.exec B.bytes B.returns hml (findClass_of_methodNamed B.named) (fun w hw => atoms_spec (ws := .code y cc maxL ret :: wU) B.pre w (List.mem_cons_of_mem _ hw)) B.notSynchronized hK ⟨hM, va_S.rf⟩ hl
theorem gs_xd {post : UInt64 → gF → Prop} (hy : plainName y.cls = true) (hlen : (lg_sl av).length ≤ maxL) (body : ∀ (p : Program) (e : Env) (s : State) (m : MethodId) (args : Array Value) (below : List Frame) (meth : Method) (c : Code) (ls : Array Slot), p.tables.exec = Jvm.exec → c.code = cc → meth.sig.returnType = ret → c.maxLocals = maxL → s.vm.findClass y.cls = some m.cls → (∀ w ∈ wU, w.before args s = true) → meth.locks = false → (∀ x ∈ c.exceptionTable.toList, False) → xW b0 s s.heap → va_K g.1 vwCl (gT g) s → gH g b0 n f s.heap s.heap [] → lv_has ls maxL (lv_args 0 av) →
      W p l e { frames := fr, cells := mc, slots := 6 * mc, locals := lo } s m args below meth c s.heap [] 0 0 (vx_MQ below (va_Qd post (gB g b0 n) (gA b0)) (xX px g b0 n) args s mc (6 * mc) (gA b0)) (F0 m 0 ls [])) : cxD l y cc maxL ret fr lo mc av g b0 n f post px := by
  refine vx_ofW (cc := cc) (maxL := maxL) (ret := ret) hy rfl ?_
  intro p e s m args below meth c s₁ B hml hex hv
  obtain ⟨⟨rfl, hM, hK⟩, hE⟩ := hv
  have hl := lv_entry av (n := maxL) hlen
  rw [lg_entry_eq]
  exact body p e s m _ below meth c _ B.exec B.bytes B.returns hml (findClass_of_methodNamed B.named) (fun w hw => atoms_spec (ws := .code y cc maxL ret :: wU) B.pre w (List.mem_cons_of_mem _ hw)) B.notSynchronized hex hE hK ⟨hM, va_S.rf⟩ hl
end GDE
section GDX
variable {p : Program} {l : Launch} {e : Env} {R : Room} {s : State} {m : MethodId} {args : Array Value} {below : List Frame} {meth : Method} {c : Code} {H : Heap} {locs : List Loc} {cells slots : Nat}
variable {cc : ByteArray} {pc : Nat} {ls : Array Slot} {g : gE} {b0 n : Nat} {f : gF}
theorem g_dret {v : UInt64} {post : UInt64 → gF → Prop} (hexec : p.tables.exec = Jvm.exec) (hb : c.code = cc) (hr : meth.sig.returnType = some .double) (hlk : meth.locks = false) (hK : va_K g.1 vwCl (gT g) s) (hM : gH g b0 n f s.heap H locs) (hdg : decode cc pc = .ok (.dreturn, 1)) (hp : post v f) : W p l e R s m args below meth c H locs 0 0 (MQ below (va_Qd post (gB g b0 n) (gA b0)) args s 0 0 (gA b0)) (F0 m pc ls [.double v]) :=
  W.dret hexec hb hr (fun t ht hw => by
    have hB : gB g b0 n f t := ⟨by rw [ht]; exact hM.1, va_K.moved hw.alike hK⟩
    exact ⟨⟨v, f, rfl, hp, hB⟩, hM.2.F ht⟩) hM.2.2.2 hdg hlk
theorem gx_dret {v : UInt64} {post : UInt64 → gF → Prop} {XC : String → State → State → Prop} {mc ms : Nat} (hexec : p.tables.exec = Jvm.exec) (hb : c.code = cc) (hr : meth.sig.returnType = some .double) (hlk : meth.locks = false) (hK : va_K g.1 vwCl (gT g) s) (hM : gH g b0 n f s.heap H locs) (hdg : decode cc pc = .ok (.dreturn, 1)) (hc : cells ≤ mc) (hs : slots ≤ ms) (hp : post v f) : W p l e R s m args below meth c H locs cells slots (vx_MQ below (va_Qd post (gB g b0 n) (gA b0)) XC args s mc ms (gA b0)) (F0 m pc ls [.double v]) := fun T hT X =>
  vx_ret (W.dret hexec hb hr (fun t ht hw => by
    have hB : gB g b0 n f t := ⟨by rw [ht]; exact hM.1, va_K.moved hw.alike hK⟩
    exact ⟨⟨v, f, rfl, hp, hB⟩, hM.2.F ht⟩) hM.2.2.2 hdg hlk) T hT (stand_widen X hc hs)
end GDX
def svV (P : Nat → Int) : UInt64 := FP.ddiv (FP.l2d (zL (P 2 - P 3))) (FP.l2d (zL (P 2)))
