theorem bt_k : ∀ m, m < 64 → ∀ k, k < 6 → (zI (m : Nat) >>> (zI (k : Nat) &&& 31)) &&& 1 = if Nat.testBit m k then 1 else 0 := by decide +kernel
theorem bs_k : ∀ m, m < 64 → ∀ k, k < 6 → zI (m : Nat) ||| (zI 1 <<< (zI (k : Nat) &&& 31)) = zI ((m ||| 2 ^ k : Nat) : Int) := by decide +kernel
section GZ
variable {p : Program} {l : Launch} {e : Env} {R : Room} {s : State} {m : MethodId} {args : Array Value} {below : List Frame} {meth : Method} {c : Code} {H : Heap} {locs : List Loc} {cells slots : Nat} {Q : State → Prop}
variable {cc : ByteArray} {pc : Nat} {ls : Array Slot} {rest : List Value}
theorem g_bit_ne (hexec : p.tables.exec = Jvm.exec) (hb : c.code = cc) {m0 k0 : Nat} {off : Int} {tgt : Nat} (d1 : decode cc pc = .ok (.ishr, 1)) (d2 : decode cc (pc + 1) = .ok (.iconst 1, 1)) (d3 : decode cc (pc + 2) = .ok (.iand, 1)) (d4 : decode cc (pc + 3) = .ok (.ifCond .ne off, 3)) (ht : ((pc + 3 : Nat) : Int) + off = (tgt : Int)) (hm : m0 < 64) (hk : k0 < 6)
    (kt : Nat.testBit m0 k0 = true → W p l e R s m args below meth c H locs cells slots Q (F0 m tgt ls rest)) (kf : Nat.testBit m0 k0 = false → W p l e R s m args below meth c H locs cells slots Q (F0 m (pc + 6) ls rest)) : W p l e R s m args below meth c H locs cells slots Q (F0 m pc ls (.int (zI (k0 : Nat)) :: .int (zI (m0 : Nat)) :: rest)) := by
  refine lv_ishr hexec hb d1 ?_
  refine lv_iconst (v := 1) hexec hb d2 (by decide) ?_
  refine lv_iand hexec hb d3 ?_
  rw [bt_k m0 hm k0 hk]
  refine lv_if_ne hexec hb d4 ht (fun h => kt ?_) (fun h => kf ?_)
  · cases hh : Nat.testBit m0 k0
    · rw [hh] at h; exact absurd rfl h
    · rfl
  · cases hh : Nat.testBit m0 k0
    · rfl
    · rw [hh] at h; exact absurd h (by decide)
theorem g_bitset (hexec : p.tables.exec = Jvm.exec) (hb : c.code = cc) {m0 k0 : Nat} (d1 : decode cc pc = .ok (.ishl, 1)) (d2 : decode cc (pc + 1) = .ok (.ior, 1)) (hm : m0 < 64) (hk : k0 < 6)
    (k : W p l e R s m args below meth c H locs cells slots Q (F0 m (pc + 2) ls (.int (zI ((m0 ||| 2 ^ k0 : Nat) : Int)) :: rest))) : W p l e R s m args below meth c H locs cells slots Q (F0 m pc ls (.int (zI (k0 : Nat)) :: .int (zI 1) :: .int (zI (m0 : Nat)) :: rest)) := by
  refine lv_ishl hexec hb d1 ?_
  refine lv_ior hexec hb d2 ?_
  rw [bs_k m0 hm k0 hk]
  exact k
end GZ
/-- the sum of the balances -/
def bS (P : Nat → Int) : Int := sSum (fun e => P (11 + 4 * e)) 10
theorem sSum_cong {A B : Nat → Int} : ∀ {n : Nat}, (∀ k, k < n → A k = B k) → sSum A n = sSum B n
  | 0, _ => rfl
  | n + 1, h => by show sSum A n + A n = sSum B n + B n; rw [sSum_cong (fun k hk => h k (by omega)), h n (by omega)]
theorem sSum_upd {A B : Nat → Int} {i : Nat} : ∀ {n : Nat}, i < n → (∀ k, k ≠ i → B k = A k) → sSum B n = sSum A n - A i + B i
  | 0, h, _ => absurd h (Nat.not_lt_zero _)
  | n + 1, h, hk => by
    show sSum B n + B n = sSum A n + A n - A i + B i
    by_cases hi : i = n
    · subst hi
      rw [sSum_cong (A := B) (B := A) (fun k hk2 => hk k (by omega))]
      omega
    · rw [sSum_upd (A := A) (B := B) (by omega) hk, hk n (by omega)]
      omega
theorem bS_up {P : Nat → Int} {e : Nat} {v : Int} (he : e < 10) : bS (pu P (11 + 4 * e) v) = bS P - P (11 + 4 * e) + v := by
  have := sSum_upd (A := fun e => P (11 + 4 * e)) (B := fun j => pu P (11 + 4 * e) v (11 + 4 * j)) he (fun k hk => pu_n (by omega))
  simp only [pu_s] at this
  exact this
theorem bS_un {P : Nat → Int} {j : Nat} {v : Int} (hj : ∀ e, e < 10 → 11 + 4 * e ≠ j) : bS (pu P j v) = bS P := sSum_cong (fun k hk => pu_n (hj k hk))
theorem bS_of {P Q : Nat → Int} (h : ∀ e, e < 10 → Q (11 + 4 * e) = P (11 + 4 * e)) : bS Q = bS P := sSum_cong h
theorem sSum_ge {A : Nat → Int} : ∀ {n : Nat}, (∀ k, k < n → 0 ≤ A k) → 0 ≤ sSum A n ∧ ∀ i, i < n → A i ≤ sSum A n
  | 0, _ => ⟨Int.le_refl 0, fun i hi => absurd hi (Nat.not_lt_zero _)⟩
  | n + 1, h => by
    obtain ⟨a, b⟩ := sSum_ge (A := A) (n := n) (fun k hk => h k (by omega))
    have hn := h n (by omega)
    refine ⟨by show 0 ≤ sSum A n + A n; omega, fun i hi => ?_⟩
    show A i ≤ sSum A n + A n
    by_cases hz : i = n
    · subst hz; omega
    · have := b i (by omega); omega
/-- the envelopes are in order, their balances together at most u -/
def wfS (P : Nat → Int) (u : Int) : Prop := (0 ≤ P 7 ∧ P 7 ≤ 10) ∧ (∀ e, e < 10 → 0 ≤ P (11 + 4 * e) ∧ (-1 ≤ P (12 + 4 * e) ∧ P (12 + 4 * e) ≤ 9000000) ∧ (0 ≤ P (13 + 4 * e) ∧ P (13 + 4 * e) ≤ 2)) ∧ bS P ≤ u
theorem wfS.E {P : Nat → Int} {u : Int} (H : wfS P u) : wfE P u := by
  refine ⟨H.1, fun e he => ?_⟩
  have h := (sSum_ge (A := fun e => P (11 + 4 * e)) (n := 10) (fun k hk => (H.2.1 k hk).1)).2 e he
  have h2 := H.2.2
  have h3 := H.2.1 e he
  exact ⟨⟨h3.1, Int.le_trans h h2⟩, h3.2⟩
/-- the links are in order -/
def lkOk (P : Nat → Int) : Prop := (0 ≤ P 9 ∧ P 9 ≤ 6) ∧ ∀ k : Nat, (k : Int) < P 9 → 0 ≤ P (69 + 5 * k) ∧ P (69 + 5 * k) < P 7 ∧ 0 ≤ P (70 + 5 * k) ∧ P (70 + 5 * k) < P 7 ∧ P (69 + 5 * k) ≠ P (70 + 5 * k) ∧ 0 ≤ P (71 + 5 * k) ∧ P (71 + 5 * k) ≤ 9000000 ∧ 1 ≤ P (72 + 5 * k) ∧ P (72 + 5 * k) ≤ 100
theorem lkOk_of {P Q : Nat → Int} (H : lkOk P) (h7 : Q 7 = P 7) (h9 : Q 9 = P 9) (h : ∀ k, k < 6 → Q (69 + 5 * k) = P (69 + 5 * k) ∧ Q (70 + 5 * k) = P (70 + 5 * k) ∧ Q (71 + 5 * k) = P (71 + 5 * k) ∧ Q (72 + 5 * k) = P (72 + 5 * k)) : lkOk Q := by
  refine ⟨by rw [h9]; exact H.1, fun k hk => ?_⟩
  rw [h9] at hk
  have h6 := H.1
  obtain ⟨a, b, c, d⟩ := h k (by omega)
  rw [a, b, c, d, h7]
  exact H.2 k hk
/-- what a link's passing on changes -/
theorem sLnk_at {P : Nat → Int} {k j : Nat} (h : j ≠ 11 + 4 * (P (69 + 5 * k)).toNat ∧ j ≠ 11 + 4 * (P (70 + 5 * k)).toNat ∧ j ≠ 73 + 5 * k ∧ j ≠ 5) : sLnk P k j = P j := by
  simp only [sLnk, sPut]
  rw [pu_n (by omega), pu_n (by omega), pu_n (by omega), pu_n (by omega)]
theorem sLnk_inv {P : Nat → Int} {k : Nat} {u : Int} (W : wfS P u) (L : lkOk P) (hu : u ≤ 1000000000000000) (hk : (k : Int) < P 9) (ho : 0 < sOver P k) : wfS (sLnk P k) u ∧ lkOk (sLnk P k) ∧ 0 ≤ sPass P k ∧ bS (sLnk P k) = bS P := by
  obtain ⟨l1, l2, l3, l4, l5, l6, l7, l8, l9⟩ := L.2 k hk
  obtain ⟨s0, hs⟩ : ∃ q : Nat, P (69 + 5 * k) = q := ⟨(P (69 + 5 * k)).toNat, by omega⟩
  obtain ⟨t0, ht⟩ : ∃ q : Nat, P (70 + 5 * k) = q := ⟨(P (70 + 5 * k)).toNat, by omega⟩
  have h7 := W.1
  have hs10 : s0 < 10 := by omega
  have ht10 : t0 < 10 := by omega
  have hst : s0 ≠ t0 := by intro h; subst h; omega
  have E := W.E
  obtain ⟨⟨b1, b2⟩, b3⟩ := E.2 s0 hs10
  have c1 := W.2.1 t0 ht10
  have hov : sOver P k = P (11 + 4 * s0) - P (71 + 5 * k) := by unfold sOver; rw [hs]; rfl
  have pc := pct_ok (o := sOver P k) (q := P (72 + 5 * k)) (by omega) (by omega) (by omega) (by omega)
  have hps : sPass P k = sIs P t0 ((sOver P k * P (72 + 5 * k)).tdiv 100) := by unfold sPass; rw [ht]; rfl
  have hin := sIs_le (P := P) (e := t0) pc.2.1
  rw [← hps] at hin
  have h9 := L.1
  have key : sLnk P k = pu (pu (pu (sPut P t0 ((sOver P k * P (72 + 5 * k)).tdiv 100)) (11 + 4 * s0) (P (11 + 4 * s0) - sPass P k)) (73 + 5 * k) (P (73 + 5 * k) + sPass P k)) 5 (P 5 + sPass P k) := by
    simp only [sLnk, hs, ht, Int.toNat_natCast]
    rw [sPut_n (by omega), pu_n (by omega), pu_n (by omega), sPut_n (by omega), sPut_n (by omega)]
  have hput : sPut P t0 ((sOver P k * P (72 + 5 * k)).tdiv 100) = pu P (11 + 4 * t0) (P (11 + 4 * t0) + sPass P k) := by unfold sPut; rw [← hps]
  have hb : bS (sLnk P k) = bS P := by
    rw [key, bS_un (by omega), bS_un (by omega), bS_up hs10, hput, bS_up ht10, pu_n (by omega)]
    omega
  refine ⟨⟨?_, fun e he => ?_, by rw [hb]; exact W.2.2⟩, lkOk_of L ?_ ?_ (fun j hj => ⟨sLnk_at (by omega), sLnk_at (by omega), sLnk_at (by omega), sLnk_at (by omega)⟩), hin.1, hb⟩
  · rw [sLnk_at (by omega)]; exact h7
  · obtain ⟨d1, d2, d3⟩ := W.2.1 e he
    rw [sLnk_at (j := 12 + 4 * e) (by omega), sLnk_at (j := 13 + 4 * e) (by omega)]
    refine ⟨?_, d2, d3⟩
    rw [key, pu_n (by omega), pu_n (by omega)]
    by_cases h1 : e = s0
    · subst h1; rw [pu_s]; omega
    · rw [pu_n (by omega), hput]
      by_cases h2 : e = t0
      · subst h2; rw [pu_s]; omega
      · rw [pu_n (by omega)]; exact d1
  · exact sLnk_at (by omega)
  · exact sLnk_at (by omega)
theorem pu_id (P : Nat → Int) (k : Nat) : pu P k (P k) = P := by
  funext j
  simp only [pu]
  split
  · rename_i h; rw [h]
  · rfl
theorem sLnk_0 {P : Nat → Int} {k : Nat} (h : sPass P k = 0) : sLnk P k = P := by
  have h2 : sIs P (P (70 + 5 * k)).toNat ((sOver P k * P (72 + 5 * k)).tdiv 100) = 0 := h
  have h1 : sPut P (P (70 + 5 * k)).toNat ((sOver P k * P (72 + 5 * k)).tdiv 100) = P := by
    unfold sPut; rw [h2, Int.add_zero]; exact pu_id _ _
  simp only [sLnk, h1, h, Int.add_zero, Int.sub_zero]
  rw [pu_id, pu_id, pu_id]
/-- a link's turn in a round: the links that have passed on, whether one did, the plan -/
def sLkT (k : Nat) (s : Nat × Bool × (Nat → Int)) : Nat × Bool × (Nat → Int) :=
  if Nat.testBit s.1 k = false ∧ 0 < sOver s.2.2 k ∧ 0 < sPass s.2.2 k then (s.1 ||| 2 ^ k, true, sLnk s.2.2 k) else s
/-- a round of settling -/
def sRnd (m : Nat) (P : Nat → Int) : Nat × Bool × (Nat → Int) := sIt sLkT (m, false, P) (P 9).toNat
def sSetT (_ : Nat) (s : Nat × Bool × (Nat → Int)) : Nat × Bool × (Nat → Int) :=
  if s.2.1 = true then s else ((sRnd s.1 s.2.2).1, !(sRnd s.1 s.2.2).2.1, (sRnd s.1 s.2.2).2.2)
/-- settling -/
def sSet (P : Nat → Int) : Nat → Int := (sIt sSetT (0, false, P) 7).2.2
