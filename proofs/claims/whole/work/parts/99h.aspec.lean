section GAN
variable {p : Program} {l : Launch} {e : Env} {R : Room} {s : State} {m : MethodId} {args : Array Value} {below : List Frame} {meth : Method} {c : Code} {H : Heap} {locs : List Loc} {cells slots : Nat} {Q : State → Prop}
variable {cc : ByteArray} {pc : Nat} {ls : Array Slot} {rest st : List Value} {g : gE} {b0 n : Nat} {f : gF} {H0 : Heap}
theorem g_anew (hexec : p.tables.exec = Jvm.exec) (hb : c.code = cc) (hts : ∀ w ∈ wU, w.before args s = true) {own : String} {index : Nat} (hown : s.vm.findClass own = some m.cls) (hcl : Cond.classLink own index RX0 ∈ wU) (hAO : va_AO RX0 s) (hK : va_K g.1 vwCl (gT g) s) (hM : gH g b0 n f H0 H locs) (hz : H.size = b0 + n) {a : Nat} (ha : a = b0 + n) {z : Int} (N : Nat) (hn : z = ↑N) (hN : N ≤ 100000) (hcells : cells + 1 ≤ R.cells) (hslots : slots + N ≤ R.slots) (hdg : decode cc pc = .ok (.anewarray index, 3))
    (kk : ∀ (f1 : gF) (H1 : Heap), gH g b0 (n + 1) f1 H0 H1 locs → H1.size = b0 + (n + 1) → arB g f1 a N (fun _ => none) → (∀ q, q ≠ a → f1 q = f q) → W p l e R s m args below meth c H1 locs (cells + 1) (slots + N) Q (F0 m (pc + 3) ls (.ref a :: rest))) : W p l e R s m args below meth c H locs cells slots Q (F0 m pc ls (.int (zI z) :: rest)) := by
  subst ha
  subst hn
  have hzi : (zI (↑N : Int)).toInt = ↑N := zI_toInt ⟨by omega, by omega⟩
  have hNc : (zI (↑N : Int)).toNatClampNeg = N := zI_clamp (z := (↑N : Int)) (by omega) (by omega)
  have hneg : ¬ zI (↑N : Int) < 0 := fun h => by
    rw [Int32.lt_iff_toInt_lt, hzi] at h
    exact absurd h (by simp)
  generalize zI (↑N : Int) = v at hNc hneg ⊢
  subst hNc
  refine W.anew hexec hb hown (hts _ hcl) (va_AO.use hAO) rfl hdg rfl hneg (cb_ok (k := 4) (by decide) hN) hcells hslots fun cA kA comp f1 f2 f3 f4 => ?_
  obtain ⟨kA9, comp9, _, _, _, h4⟩ := (hK.2 4 _ rfl).2
  have hid : cA = g.2 4 := Option.some.inj (f1.symm.trans h4)
  subst hid
  have e1 : (H.push ({ cls := g.2 4, slots := Array.replicate v.toNatClampNeg .null, vm := .none } : Cell))[b0 + n]? = some (arrV (g.2 4) v.toNatClampNeg (fun _ => .null)) := by rw [← hz, Array.getElem?_push_size, ← arrV_new]
  have o1 : ∀ q : Nat, q < b0 + n → (H.push ({ cls := g.2 4, slots := Array.replicate v.toNatClampNeg .null, vm := .none } : Cell))[q]? = H[q]? := fun q hq => by rw [Array.getElem?_push, if_neg (Nat.ne_of_lt (by omega))]
  have z1 : (H.push ({ cls := g.2 4, slots := Array.replicate v.toNatClampNeg .null, vm := .none } : Cell)).size = b0 + (n + 1) := by rw [Array.size_push]; omega
  rw [hz]
  refine kk _ _ ⟨gM_push (en := .inl (g.2 4, v.toNatClampNeg, .inr (.inr (.inr (.inr (fun _ => none)))))) hM.1 o1 (fun k x hx => ?_), Nat.le_trans hM.2.1 (by omega), fun x h1 h2 => (o1 x (by have := hM.2.1; omega)).trans (hM.2.2.1 x h1 h2), hM.2.2.2⟩ z1 ⟨_, va_up_self _ _ _, fun k _ => rfl⟩ (fun q hne => va_up_ne _ _ hne)
  have hz1 : k < 1 := (List.getElem?_eq_some_iff.mp hx).1
  rw [show k = 0 by omega] at hx
  cases hx
  show _ = some (vp_cell _ _)
  rw [vp_cell_q]
  exact e1
theorem g_aast (hexec : p.tables.exec = Jvm.exec) (hb : c.code = cc) (hK : va_K g.1 vwCl (gT g) s) (hM : gH g b0 n f H0 H locs) {a v : Nat} (ha : b0 ≤ a ∧ a < b0 + n) {N : Nat} {A : Nat → Option Nat} (hA : arB g f a N A) (hv : b0 ≤ v ∧ v < b0 + n) {vs : List Value} (hvo : f v = .inr (2, vs)) {z : Int} (h0 : 0 ≤ z) (h1 : z < N) (hN : N < 2147483648) (hdg : decode cc pc = .ok (.aastore, 1))
    (kk : ∀ (f1 : gF) (H1 : Heap) (locs1 : List Loc), gH g b0 n f1 H0 H1 locs1 → arB g f1 a N (va_up A z.toNat (some v)) → (∀ q, q ≠ a → f1 q = f q) → W p l e R s m args below meth c H1 locs1 cells slots Q (F0 m (pc + 1) ls rest)) : W p l e R s m args below meth c H locs cells slots Q (F0 m pc ls (.ref v :: .int (zI z) :: .ref a :: rest)) := by
  obtain ⟨q0, hq⟩ := gM_at f ha
  obtain ⟨qv, hqv⟩ := gM_at f hv
  obtain ⟨B, hB, hbv⟩ := hA
  have hq2 := hq
  rw [hB] at hq2
  rw [hvo] at hqv
  refine va_astq hexec hb hK hM.1 (gD b0 n f) hM.2 q0 4 qv 2 hq2 rfl hqv rfl (zI_in h0 h1 hN) hdg (fun H1 locs1 hP _ hS => kk _ H1 locs1 ⟨gM_up ha hq hP, hS⟩ ⟨_, va_up_self _ _ _, fun k hk => ?_⟩ (fun q hne => va_up_ne _ _ hne))
  rw [zI_clamp h0 (by omega)]
  unfold va_up
  split
  · rfl
  · exact hbv k hk
end GAN
