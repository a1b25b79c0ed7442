theorem ad_ne {h j k : Nat} (e : j ≠ k) : h + j ≠ h + k := fun q => e (Nat.add_left_cancel q)
theorem ad_n0 {h k : Nat} (e : 0 < k) : h ≠ h + k := fun q => by omega
theorem ad_0n {h k : Nat} (e : 0 < k) : h + k ≠ h := fun q => by omega
theorem ad_lt {h q k : Nat} (e : q < h) : q ≠ h + k := fun i => by omega
theorem ad_l0 {h q : Nat} (e : q < h) : q ≠ h := Nat.ne_of_lt e
section GSZ
variable {p : Program} {l : Launch} {e : Env} {R : Room} {s : State} {m : MethodId} {args : Array Value} {below : List Frame} {meth : Method} {c : Code} {H : Heap} {locs : List Loc} {cells slots : Nat} {Q : State → Prop}
variable {cc : ByteArray} {pc : Nat} {ls : Array Slot} {rest st : List Value} {g : gE} {b0 n n1 : Nat} {f : gF}
/-- where the memory ends -/
theorem g_size {fr : JFrame} (hM : gH g b0 n f s.heap H locs) (hz1 : b0 ≤ s.heap.size) (hz0 : s.heap.size + cells = b0 + n) (k : H.size = b0 + n → W p l e R s m args below meth c H locs cells slots Q fr) : W p l e R s m args below meth c H locs cells slots Q fr := fun T hT X => k (by
  have h1 := X.heapSize
  rw [hT] at h1
  have h2 : b0 + n ≤ H.size := by
    cases n with
    | zero => have := hM.2.1; omega
    | succ j =>
      obtain ⟨q0, hq⟩ := gM_at (b0 := b0) f (a := b0 + j) (n := j + 1) ⟨by omega, by omega⟩
      have := (hM.1 q0 _ hq).lt
      have h3 : b0 + j < H.size := this
      omega
  omega) T hT X
theorem cuI {own : String} {index : Nat} {y : MethodName} {bytes : ByteArray} {maxL k : Nat} {fr lo mc ms : Nat} (ht : ∀ w ∈ wU, w.before args s = true) (hc : Cond.code y bytes maxL none ∈ wU) (hl : Cond.methodLink own index y ∈ wU) (hini : Cond.initialized y.cls ∈ wU) (hd : cuD y k) (hi : Cond.instanceMethod y ∈ wU) (hR : fr + 1 ≤ R.frames ∧ 8 + (maxL + 11) + lo ≤ R.locals) (hy : y.name = "<init>") : CallB R s args own index y bytes maxL none (.code y bytes maxL none :: wU) { frames := fr, cells := mc, slots := ms, locals := lo } mc ms k ∧ y.name = "<init>" ∧ (Cond.instanceMethod y).before args s = true := by
  refine ⟨⟨rfl, rfl, hR.1, hR.2, gU_pay ht hc, List.mem_cons_self, ht _ hc, ht _ hini, ⟨hd.1, hd.2.1⟩, fun sig h => ?_, ht _ hl⟩, hy, ht _ hi⟩
  have h2 := hd.2.2
  rw [h] at h2
  exact (Option.some.inj h2).symm
theorem g_callI {own : String} {index nL maxL nA fr lo mc ms : Nat} {y : MethodName} {bytes : ByteArray} {b : Nat} {As : List Value} {post : gF → Prop} (S : CallFix p m c cc nL s args wU own) (hK : va_K g.1 vwCl (gT g) s) (hM : gH g b0 n f s.heap H locs) (hz : H.size = b0 + n) (hC : cN l y bytes maxL fr lo mc ms (.ref b :: As) g b0 n n1 f post)
    (cw : CallB R s args own index y bytes maxL none (.code y bytes maxL none :: wU) { frames := fr, cells := mc, slots := ms, locals := lo } mc ms nA ∧ y.name = "<init>" ∧ (Cond.instanceMethod y).before args s = true) (hn : As.length = nA) (hls : ls.size = nL) (hst : st = As.reverse ++ .ref b :: rest) (hroom : (rest.map fun v => v.category).sum ≤ 8) (hdg : decode cc pc = .ok (.invokespecial index, 3)) (hf : cells + mc ≤ R.cells ∧ slots + ms ≤ R.slots)
    (kk : ∀ (f1 : gF) (H1 : Heap) (locs1 : List Loc), gH g b0 n1 f1 s.heap H1 locs1 → post f1 → W p l e R s m args below meth c H1 locs1 (cells + mc) (slots + ms) Q (F0 m (pc + 3) ls rest)) : W p l e R s m args below meth c H locs cells slots Q (F0 m pc ls st) :=
  va_callv (va_runI (As := As) (rest := rest) S hC cw ⟨nPc_blind, fun U hU hw => nPc_ok hK hM hz hU hw⟩ rfl hn hls hst (lv_room (m := m) (pc := pc) (ls := ls) (rest := st) hroom) hdg hf) hM.2 (fun q _ h => h) (fun q h => h) (fun u t H1 locs1 ht _ hp hB _ _ hS => kk u H1 locs1 ⟨by rw [← ht]; exact hB.1.1, hS⟩ hp)
theorem cuIN {own host : String} {index : Nat} {y : MethodName} {bytes : ByteArray} {maxL k : Nat} {fr lo mc ms : Nat} (ht : ∀ w ∈ wU, w.before args s = true) (hc : Cond.code y bytes maxL none ∈ wU) (hl : Cond.methodLinkNest own index y host ∈ wU) (hini : Cond.initialized y.cls ∈ wU) (hd : cuD y k) (hi : Cond.instanceMethod y ∈ wU) (hR : fr + 1 ≤ R.frames ∧ 8 + (maxL + 11) + lo ≤ R.locals) (hy : y.name = "<init>") : va_CN R s args own index y host bytes maxL none (.code y bytes maxL none :: wU) { frames := fr, cells := mc, slots := ms, locals := lo } mc ms k ∧ y.name = "<init>" ∧ (Cond.instanceMethod y).before args s = true := by
  refine ⟨⟨⟨rfl, rfl, hR.1, hR.2, gU_pay ht hc, List.mem_cons_self⟩, ht _ hc, ht _ hini, ⟨hd.1, hd.2.1⟩, fun sig h => ?_, ht _ hl⟩, hy, ht _ hi⟩
  have h2 := hd.2.2
  rw [h] at h2
  exact (Option.some.inj h2).symm
theorem g_callIN {own host : String} {index nL maxL nA fr lo mc ms : Nat} {y : MethodName} {bytes : ByteArray} {b : Nat} {As : List Value} {post : gF → Prop} (S : CallFix p m c cc nL s args wU own) (hK : va_K g.1 vwCl (gT g) s) (hM : gH g b0 n f s.heap H locs) (hz : H.size = b0 + n) (hC : cN l y bytes maxL fr lo mc ms (.ref b :: As) g b0 n n1 f post)
    (cw : va_CN R s args own index y host bytes maxL none (.code y bytes maxL none :: wU) { frames := fr, cells := mc, slots := ms, locals := lo } mc ms nA ∧ y.name = "<init>" ∧ (Cond.instanceMethod y).before args s = true) (hn : As.length = nA) (hls : ls.size = nL) (hst : st = As.reverse ++ .ref b :: rest) (hroom : (rest.map fun v => v.category).sum ≤ 8) (hdg : decode cc pc = .ok (.invokespecial index, 3)) (hf : cells + mc ≤ R.cells ∧ slots + ms ≤ R.slots)
    (kk : ∀ (f1 : gF) (H1 : Heap) (locs1 : List Loc), gH g b0 n1 f1 s.heap H1 locs1 → post f1 → W p l e R s m args below meth c H1 locs1 (cells + mc) (slots + ms) Q (F0 m (pc + 3) ls rest)) : W p l e R s m args below meth c H locs cells slots Q (F0 m pc ls st) :=
  va_callv (va_runIN (As := As) (rest := rest) S hC cw ⟨nPc_blind, fun U hU hw => nPc_ok hK hM hz hU hw⟩ rfl hn hls hst (lv_room (m := m) (pc := pc) (ls := ls) (rest := st) hroom) hdg hf) hM.2 (fun q _ h => h) (fun q h => h) (fun u t H1 locs1 ht _ hp hB _ _ hS => kk u H1 locs1 ⟨by rw [← ht]; exact hB.1.1, hS⟩ hp)
theorem g_nret {post : gF → Prop} {mc ms : Nat} (hexec : p.tables.exec = Jvm.exec) (hb : c.code = cc) (hr : meth.sig.returnType = none) (hlk : meth.locks = false) (hK : va_K g.1 vwCl (gT g) s) (hM : gH g b0 n f s.heap H locs) (hz : H.size = b0 + n) (hdg : decode cc pc = .ok (.return_, 1)) (hp : post f) : W p l e R s m args below meth c H locs mc ms (MQ below (va_Qv post (fun f1 U => gB g b0 n f1 U ∧ U.heap.size = b0 + n) (gA b0)) args s mc ms (gA b0)) (F0 m pc ls []) :=
  W.vret hexec hb hr (fun t ht hw => ⟨⟨f, rfl, hp, ⟨by rw [ht]; exact hM.1, va_K.moved hw.alike hK⟩, by rw [ht]; exact hz⟩, hM.2.F ht⟩) hM.2.2.2 hdg hlk
end GSZ
