section GLW
variable {p : Program} {l : Launch} {e : Env} {R : Room} {s : State} {m : MethodId} {args : Array Value} {below : List Frame} {meth : Method} {c : Code} {H : Heap} {locs : List Loc} {cells slots : Nat} {Q : State → Prop}
variable {cc : ByteArray} {pc : Nat} {ls : Array Slot} {rest : List Value}
theorem g_ldcw (hexec : p.tables.exec = Jvm.exec) (hb : c.code = cc) {own : String} {index : Nat} {v : Int32} {z : Int} (hown : s.vm.findClass own = some m.cls) (hconst : (Jvm.Cond.constant own index v).before args s = true) (hdg : decode cc pc = .ok (.ldc_w index, 3)) (hz : v = zI z) (k : W p l e R s m args below meth c H locs cells slots Q (F0 m (pc + 3) ls (.int (zI z) :: rest))) : W p l e R s m args below meth c H locs cells slots Q (F0 m pc ls rest) := by
  subst hz; exact lv_ldcw hexec hb hown hconst hdg k
end GLW
def cd3 (q r t : Prop) [Decidable q] [Decidable r] [Decidable t] : Int := if q then (if r then (if t then 0 else 3) else 2) else 1
theorem cd3_y {q r t : Prop} [Decidable q] [Decidable r] [Decidable t] (h : q) (h2 : r) (h3 : t) : cd3 q r t = 0 := by unfold cd3; rw [if_pos h, if_pos h2, if_pos h3]
theorem cd3_1 {q r t : Prop} [Decidable q] [Decidable r] [Decidable t] (h : ¬ q) : cd3 q r t = 1 := if_neg h
theorem cd3_2 {q r t : Prop} [Decidable q] [Decidable r] [Decidable t] (h : q) (h2 : ¬ r) : cd3 q r t = 2 := by unfold cd3; rw [if_pos h, if_neg h2]
theorem cd3_3 {q r t : Prop} [Decidable q] [Decidable r] [Decidable t] (h : q) (h2 : r) (h3 : ¬ t) : cd3 q r t = 3 := by unfold cd3; rw [if_pos h, if_pos h2, if_neg h3]
