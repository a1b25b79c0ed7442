section GAL
variable {p : Program} {l : Launch} {e : Env} {R : Room} {s : State} {m : MethodId} {args : Array Value} {below : List Frame} {meth : Method} {c : Code} {H : Heap} {locs : List Loc} {cells slots : Nat} {Q : State → Prop}
variable {cc : ByteArray} {pc : Nat} {ls : Array Slot} {rest : List Value} {g : gE} {b0 n a : Nat} {f : gF} {H0 : Heap}
theorem g_alenI (hexec : p.tables.exec = Jvm.exec) (hb : c.code = cc) (hK : va_K g.1 vwCl (gT g) s) (hM : gH g b0 n f H0 H locs) (ha : b0 ≤ a ∧ a < b0 + n) {N : Nat} {A : Nat → Int} (hA : arI g f a N A) (hdg : decode cc pc = .ok (.arraylength, 1))
    (kk : W p l e R s m args below meth c H locs cells slots Q (F0 m (pc + 1) ls (.int (zI ↑N) :: rest))) : W p l e R s m args below meth c H locs cells slots Q (F0 m pc ls (.ref a :: rest)) := by
  obtain ⟨q0, hq⟩ := gM_at f ha
  obtain ⟨B, hB, hv⟩ := hA
  rw [hB] at hq
  exact va_alen hexec hb hK hM.1 q0 1 hq rfl rfl hdg kk
theorem g_alenJ (hexec : p.tables.exec = Jvm.exec) (hb : c.code = cc) (hK : va_K g.1 vwCl (gT g) s) (hM : gH g b0 n f H0 H locs) (ha : b0 ≤ a ∧ a < b0 + n) {N : Nat} {A : Nat → Int} (hA : arJ g f a N A) (hdg : decode cc pc = .ok (.arraylength, 1))
    (kk : W p l e R s m args below meth c H locs cells slots Q (F0 m (pc + 1) ls (.int (zI ↑N) :: rest))) : W p l e R s m args below meth c H locs cells slots Q (F0 m pc ls (.ref a :: rest)) := by
  obtain ⟨q0, hq⟩ := gM_at f ha
  obtain ⟨B, hB, hv⟩ := hA
  rw [hB] at hq
  exact va_alen hexec hb hK hM.1 q0 2 hq rfl rfl hdg kk
end GAL
