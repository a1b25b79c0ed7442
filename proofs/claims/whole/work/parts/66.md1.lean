def po_X9_in (g : gE) (f : gF) (v lo hi : Int) : Int32 → gF → Prop := fun r f1 => r = bI (lo ≤ v ∧ v ≤ hi) ∧ f = f1
set_option maxRecDepth 100000 in
set_option maxHeartbeats 1000000 in
/-- in -/
theorem c_X9_in (l : Launch) (g : gE) (b0 n : Nat) (f : gF) (v lo hi : Int) (hv : rL v) (hlo : rL lo) (hhi : rL hi) : cI l yX9_in cX9_in 6 (some .boolean) 0 0 [.long (zL v), .long (zL lo), .long (zL hi)] g b0 n f (po_X9_in g f v lo hi) := by
  refine gs_i (cc := cX9_in) (maxL := 6) (ret := (some .boolean)) (by decide) (Nat.le_of_ble_eq_true rfl) ?_
  intro p e0 s m args below meth c ls hx hb hr hml hown hts hlk hK hM hl
  have hl : lv_has ls 6 [(0, .long (zL v)), (2, .long (zL lo)), (4, .long (zL hi))] := hl
  refine lv_lload_n hx hb dX9_in_0 rfl (lv_at hl 0 rfl) ?_
  refine lv_lload_n hx hb dX9_in_1 rfl (lv_at hl 1 rfl) ?_
  refine g_lcmp_lt (tgt := 17) hx hb dX9_in_2 dX9_in_3 (by decide) hv hlo (fun c2 => ?_) (fun c2 => ?_)
  · skip
    refine g_iconst hx hb dX9_in_17 ?_
    refine g_zret hx hb hr hlk hK hM dX9_in_18 rfl ?_
    refine ⟨?_, rfl⟩
    show zI 0 = _
    first | exact (bI_t (by omega)).symm | exact (bI_f (by omega)).symm
  · skip
    refine lv_lload_n hx hb dX9_in_6 rfl (lv_at hl 0 rfl) ?_
    refine lv_lload hx hb dX9_in_7 (lv_at hl 2 rfl) ?_
    refine g_lcmp_gt (tgt := 17) hx hb dX9_in_9 dX9_in_10 (by decide) hv hhi (fun c9 => ?_) (fun c9 => ?_)
    · skip
      refine g_iconst hx hb dX9_in_17 ?_
      refine g_zret hx hb hr hlk hK hM dX9_in_18 rfl ?_
      refine ⟨?_, rfl⟩
      show zI 0 = _
      first | exact (bI_t (by omega)).symm | exact (bI_f (by omega)).symm
    · skip
      refine g_iconst hx hb dX9_in_13 ?_
      refine lv_goto (tgt := 18) hx hb dX9_in_14 (by decide) ?_
      refine g_zret hx hb hr hlk hK hM dX9_in_18 rfl ?_
      refine ⟨?_, rfl⟩
      show zI 1 = _
      first | exact (bI_t (by omega)).symm | exact (bI_f (by omega)).symm

def po_X9_fails (g : gE) (f : gF) (h : Nat) (Z : Nat → Int) (w : Int) : Int32 → gF → Prop := fun r f1 => r = zI 0 ∧ mdO f1 h (pu Z 0 w) ∧ ∀ q, q ≠ h → f1 q = f q
set_option maxRecDepth 100000 in
set_option maxHeartbeats 1000000 in
/-- fails -/
theorem c_X9_fails (l : Launch) (g : gE) (b0 n : Nat) (f : gF) (h : Nat) (Z : Nat → Int) (w : Int) (hO : mdO f h Z) (hrg : b0 ≤ h ∧ h + 13 ≤ b0 + n) : cI l yX9_fails cX9_fails 2 (some .int) 0 0 [.ref h, .int (zI w)] g b0 n f (po_X9_fails g f h Z w) := by
  refine gs_i (cc := cX9_fails) (maxL := 2) (ret := (some .int)) (by decide) (Nat.le_of_ble_eq_true rfl) ?_
  intro p e0 s m args below meth c ls hx hb hr hml hown hts hlk hK hM hl
  have hl : lv_has ls 2 [(0, .ref h), (1, .int (zI w))] := hl
  refine lv_aload_n hx hb dX9_fails_0 rfl (lv_at hl 0 rfl) ?_
  refine lv_iload_n hx hb dX9_fails_1 rfl (lv_at hl 1 rfl) ?_
  refine g_put (ci := 11) (v := .int (zI w)) (ty := .int) (C := RX9) (T := TX9) (N := 24) hx hb hts iU_X9 tyX9 tyX9_ok nmX9 hown hK hM ⟨by omega, by omega⟩ hO rfl 0 (by decide) (hts _ u_1144) (fun _ h9 => h9) rfl (by decide +kernel) rfl rfl (Nat.le_of_ble_eq_true rfl) dX9_fails_2 (fun f1 H locs hM hf3 o2 => ?_)
  have hf3 : f1 (h) = .inr (11, [.int (zI w), .ref (h + 1), .ref (h + 2), .ref (h + 3), .ref (h + 4), .ref (h + 5), .ref (h + 6), .ref (h + 7), .ref (h + 8), .int (zI (Z 9)), .int (zI (Z 10)), .int (zI (Z 11)), .int (zI (Z 12)), .int (zI (Z 13)), .int (zI (Z 14)), .int (zI (Z 15)), .int (zI (Z 16)), .ref (h + 9), .ref (h + 10), .ref (h + 11), .int (zI (Z 20)), .int (zI (Z 21)), .int (zI (Z 22)), .ref (h + 12)]) := hf3
  refine g_iconst hx hb dX9_fails_5 ?_
  refine g_iret hx hb hr hlk hK hM dX9_fails_6 ?_
  exact ⟨rfl, hf3, (fun q hq => (o2 (q) (by omega)))⟩

def po_X9_thrown (g : gE) (f : gF) (h : Nat) (Z : Nat → Int) : Int32 → gF → Prop := fun r f1 => r = zI (Z 0) ∧ f = f1
set_option maxRecDepth 100000 in
set_option maxHeartbeats 1000000 in
/-- thrown -/
theorem c_X9_thrown (l : Launch) (g : gE) (b0 n : Nat) (f : gF) (h : Nat) (Z : Nat → Int) (hO : mdO f h Z) (hrg : b0 ≤ h ∧ h + 13 ≤ b0 + n) : cI l yX9_thrown cX9_thrown 1 (some .int) 0 0 [.ref h] g b0 n f (po_X9_thrown g f h Z) := by
  refine gs_i (cc := cX9_thrown) (maxL := 1) (ret := (some .int)) (by decide) (Nat.le_of_ble_eq_true rfl) ?_
  intro p e0 s m args below meth c ls hx hb hr hml hown hts hlk hK hM hl
  have hl : lv_has ls 1 [(0, .ref h)] := hl
  refine lv_aload_n hx hb dX9_thrown_0 rfl (lv_at hl 0 rfl) ?_
  refine g_get (ci := 11) (v := .int (zI (Z 0))) (C := RX9) (T := TX9) (N := 24) hx hb hts iU_X9 hown hK hM ⟨by omega, by omega⟩ hO rfl 0 (by decide) (hts _ u_1144) (fun _ h9 => h9) rfl dX9_thrown_1 ?_
  refine g_iret hx hb hr hlk hK hM dX9_thrown_4 ?_
  exact ⟨rfl, rfl⟩

def po_X9_p (g : gE) (f : gF) (h : Nat) (Z M : Nat → Int) (aa : Nat) (P : Nat → Int) (z : Int) (i : Nat) : Int64 → gF → Prop := fun r f1 => r = zL (P i) ∧ f = f1
set_option maxRecDepth 100000 in
set_option maxHeartbeats 1000000 in
/-- p -/
theorem c_X9_p (l : Launch) (g : gE) (b0 n : Nat) (f : gF) (h : Nat) (Z M : Nat → Int) (aa : Nat) (P : Nat → Int) (z : Int) (i : Nat) (hO : mdO f h Z) (hP : mpAt g f h M aa P) (hrg : b0 ≤ h ∧ h + 13 ≤ b0 + n) (hat : Z 11 = ↑aa) (haa : aa + 147 ≤ 2058) (hz : z = ↑i) (hi : i < 147) : cL l yX9_p cX9_p 2 (some .long) 0 0 [.ref h, .int (zI z)] g b0 n f (po_X9_p g f h Z M aa P z i) := by
  refine gs_l (cc := cX9_p) (maxL := 2) (ret := (some .long)) (by decide) (Nat.le_of_ble_eq_true rfl) ?_
  intro p e0 s m args below meth c ls hx hb hr hml hown hts hlk hK hM hl
  have hl : lv_has ls 2 [(0, .ref h), (1, .int (zI z))] := hl
  refine lv_aload_n hx hb dX9_p_0 rfl (lv_at hl 0 rfl) ?_
  refine g_get (ci := 11) (v := .ref (h + 1)) (C := RX9) (T := TX9) (N := 24) hx hb hts iU_X9 hown hK hM ⟨by omega, by omega⟩ hO rfl 1 (by decide) (hts _ u_1145) (fun _ h9 => h9) rfl dX9_p_1 ?_
  refine lv_aload_n hx hb dX9_p_4 rfl (lv_at hl 0 rfl) ?_
  refine g_get (ci := 11) (v := .int (zI (Z 11))) (C := RX9) (T := TX9) (N := 24) hx hb hts iU_X9 hown hK hM ⟨by omega, by omega⟩ hO rfl 11 (by decide) (hts _ u_1155) (fun _ h9 => h9) rfl dX9_p_5 ?_
  refine lv_iload_n hx hb dX9_p_8 rfl (lv_at hl 1 rfl) ?_
  refine g_iadd hx hb dX9_p_9 ?_
  refine g_lald hx hb hK hM ⟨by omega, by omega⟩ hP (by omega) (by omega) (by decide) dX9_p_10 ?_
  show W _ _ _ _ _ _ _ _ _ _ _ _ _ _ _ (F0 _ _ _ (.long (zL ((mov M aa P) ((Z 11) + z).toNat)) :: _))
  refine g_lret hx hb hr hlk hK hM dX9_p_11 ?_
  exact ⟨by rw [mov_at (by omega) hi], rfl⟩

def po_X9_n (g : gE) (f : gF) (h : Nat) (Z M : Nat → Int) (aa : Nat) (P : Nat → Int) (z : Int) (i : Nat) : Int32 → gF → Prop := fun r f1 => r = zI (P i) ∧ f = f1
set_option maxRecDepth 100000 in
set_option maxHeartbeats 1000000 in
/-- n -/
theorem c_X9_n (l : Launch) (g : gE) (b0 n : Nat) (f : gF) (h : Nat) (Z M : Nat → Int) (aa : Nat) (P : Nat → Int) (z : Int) (i : Nat) (hO : mdO f h Z) (hP : mpAt g f h M aa P) (hrg : b0 ≤ h ∧ h + 13 ≤ b0 + n) (hat : Z 11 = ↑aa) (haa : aa + 147 ≤ 2058) (hz : z = ↑i) (hi : i < 147) : cI l yX9_n cX9_n 2 (some .int) 0 0 [.ref h, .int (zI z)] g b0 n f (po_X9_n g f h Z M aa P z i) := by
  refine gs_i (cc := cX9_n) (maxL := 2) (ret := (some .int)) (by decide) (Nat.le_of_ble_eq_true rfl) ?_
  intro p e0 s m args below meth c ls hx hb hr hml hown hts hlk hK hM hl
  have hl : lv_has ls 2 [(0, .ref h), (1, .int (zI z))] := hl
  refine lv_aload_n hx hb dX9_n_0 rfl (lv_at hl 0 rfl) ?_
  refine g_get (ci := 11) (v := .ref (h + 1)) (C := RX9) (T := TX9) (N := 24) hx hb hts iU_X9 hown hK hM ⟨by omega, by omega⟩ hO rfl 1 (by decide) (hts _ u_1145) (fun _ h9 => h9) rfl dX9_n_1 ?_
  refine lv_aload_n hx hb dX9_n_4 rfl (lv_at hl 0 rfl) ?_
  refine g_get (ci := 11) (v := .int (zI (Z 11))) (C := RX9) (T := TX9) (N := 24) hx hb hts iU_X9 hown hK hM ⟨by omega, by omega⟩ hO rfl 11 (by decide) (hts _ u_1155) (fun _ h9 => h9) rfl dX9_n_5 ?_
  refine lv_iload_n hx hb dX9_n_8 rfl (lv_at hl 1 rfl) ?_
  refine g_iadd hx hb dX9_n_9 ?_
  refine g_lald hx hb hK hM ⟨by omega, by omega⟩ hP (by omega) (by omega) (by decide) dX9_n_10 ?_
  show W _ _ _ _ _ _ _ _ _ _ _ _ _ _ _ (F0 _ _ _ (.long (zL ((mov M aa P) ((Z 11) + z).toNat)) :: _))
  refine g_l2i hx hb dX9_n_11 ?_
  refine g_iret hx hb hr hlk hK hM dX9_n_12 ?_
  exact ⟨by rw [mov_at (by omega) hi], rfl⟩

def po_X9_puts (g : gE) (f : gF) (h : Nat) (Z M : Nat → Int) (aa : Nat) (P : Nat → Int) (z : Int) (i : Nat) (v : Int) : gF → Prop := fun f1 => mpAt g f1 h M aa (pu P i v) ∧ ∀ q, q ≠ h + 1 → f1 q = f q
set_option maxRecDepth 100000 in
set_option maxHeartbeats 1000000 in
/-- puts -/
theorem c_X9_puts (l : Launch) (g : gE) (b0 n : Nat) (f : gF) (h : Nat) (Z M : Nat → Int) (aa : Nat) (P : Nat → Int) (z : Int) (i : Nat) (v : Int) (hO : mdO f h Z) (hP : mpAt g f h M aa P) (hrg : b0 ≤ h ∧ h + 13 ≤ b0 + n) (hat : Z 11 = ↑aa) (haa : aa + 147 ≤ 2058) (hz : z = ↑i) (hi : i < 147) : cV l yX9_puts cX9_puts 4 none 0 0 [.ref h, .int (zI z), .long (zL v)] g b0 n f (po_X9_puts g f h Z M aa P z i v) := by
  refine gs_v (cc := cX9_puts) (maxL := 4) (ret := none) (by decide) (Nat.le_of_ble_eq_true rfl) ?_
  intro p e0 s m args below meth c ls hx hb hr hml hown hts hlk hK hM hl
  have hl : lv_has ls 4 [(0, .ref h), (1, .int (zI z)), (2, .long (zL v))] := hl
  refine lv_aload_n hx hb dX9_puts_0 rfl (lv_at hl 0 rfl) ?_
  refine g_get (ci := 11) (v := .ref (h + 1)) (C := RX9) (T := TX9) (N := 24) hx hb hts iU_X9 hown hK hM ⟨by omega, by omega⟩ hO rfl 1 (by decide) (hts _ u_1145) (fun _ h9 => h9) rfl dX9_puts_1 ?_
  refine lv_aload_n hx hb dX9_puts_4 rfl (lv_at hl 0 rfl) ?_
  refine g_get (ci := 11) (v := .int (zI (Z 11))) (C := RX9) (T := TX9) (N := 24) hx hb hts iU_X9 hown hK hM ⟨by omega, by omega⟩ hO rfl 11 (by decide) (hts _ u_1155) (fun _ h9 => h9) rfl dX9_puts_5 ?_
  refine lv_iload_n hx hb dX9_puts_8 rfl (lv_at hl 1 rfl) ?_
  refine g_iadd hx hb dX9_puts_9 ?_
  refine lv_lload_n hx hb dX9_puts_10 rfl (lv_at hl 2 rfl) ?_
  refine g_last hx hb hK hM ⟨by omega, by omega⟩ hP (by omega) (by omega) (by decide) dX9_puts_11 (fun f1 H locs hM ha3 o2 => ?_)
  refine g_vret hx hb hr hlk hK hM dX9_puts_12 ?_
  exact ⟨arJ.cong ha3 (fun k _ => mov_pu (by omega) hi k), (fun q hq => (o2 (q) (by omega)))⟩

def po_X9_adds (g : gE) (f : gF) (h : Nat) (Z M : Nat → Int) (aa : Nat) (P : Nat → Int) (z : Int) (i : Nat) (v : Int) : gF → Prop := fun f1 => mpAt g f1 h M aa (pu P i (P i + v)) ∧ ∀ q, q ≠ h + 1 → f1 q = f q
set_option maxRecDepth 100000 in
set_option maxHeartbeats 1000000 in
/-- adds -/
theorem c_X9_adds (l : Launch) (g : gE) (b0 n : Nat) (f : gF) (h : Nat) (Z M : Nat → Int) (aa : Nat) (P : Nat → Int) (z : Int) (i : Nat) (v : Int) (hO : mdO f h Z) (hP : mpAt g f h M aa P) (hrg : b0 ≤ h ∧ h + 13 ≤ b0 + n) (hat : Z 11 = ↑aa) (haa : aa + 147 ≤ 2058) (hz : z = ↑i) (hi : i < 147) : cV l yX9_adds cX9_adds 4 none 0 0 [.ref h, .int (zI z), .long (zL v)] g b0 n f (po_X9_adds g f h Z M aa P z i v) := by
  refine gs_v (cc := cX9_adds) (maxL := 4) (ret := none) (by decide) (Nat.le_of_ble_eq_true rfl) ?_
  intro p e0 s m args below meth c ls hx hb hr hml hown hts hlk hK hM hl
  have hl : lv_has ls 4 [(0, .ref h), (1, .int (zI z)), (2, .long (zL v))] := hl
  refine lv_aload_n hx hb dX9_adds_0 rfl (lv_at hl 0 rfl) ?_
  refine g_get (ci := 11) (v := .ref (h + 1)) (C := RX9) (T := TX9) (N := 24) hx hb hts iU_X9 hown hK hM ⟨by omega, by omega⟩ hO rfl 1 (by decide) (hts _ u_1145) (fun _ h9 => h9) rfl dX9_adds_1 ?_
  refine lv_aload_n hx hb dX9_adds_4 rfl (lv_at hl 0 rfl) ?_
  refine g_get (ci := 11) (v := .int (zI (Z 11))) (C := RX9) (T := TX9) (N := 24) hx hb hts iU_X9 hown hK hM ⟨by omega, by omega⟩ hO rfl 11 (by decide) (hts _ u_1155) (fun _ h9 => h9) rfl dX9_adds_5 ?_
  refine lv_iload_n hx hb dX9_adds_8 rfl (lv_at hl 1 rfl) ?_
  refine g_iadd hx hb dX9_adds_9 ?_
  refine lv_dup2_11 hx hb dX9_adds_10 rfl rfl ?_
  refine g_lald hx hb hK hM ⟨by omega, by omega⟩ hP (by omega) (by omega) (by decide) dX9_adds_11 ?_
  show W _ _ _ _ _ _ _ _ _ _ _ _ _ _ _ (F0 _ _ _ (.long (zL ((mov M aa P) ((Z 11) + z).toNat)) :: _))
  refine lv_lload_n hx hb dX9_adds_12 rfl (lv_at hl 2 rfl) ?_
  refine g_ladd hx hb dX9_adds_13 ?_
  refine g_last hx hb hK hM ⟨by omega, by omega⟩ hP (by omega) (by omega) (by decide) dX9_adds_14 (fun f1 H locs hM ha3 o2 => ?_)
  refine g_vret hx hb hr hlk hK hM dX9_adds_15 ?_
  have hma : mov M aa P (Z 11 + z).toNat = P i := mov_at (by omega) hi
  exact ⟨arJ.cong ha3 (fun k _ => by rw [hma]; exact mov_pu (by omega) hi k), (fun q hq => (o2 (q) (by omega)))⟩

def po_X9_copies (g : gE) (f : gF) (h : Nat) (Z M : Nat → Int) (fr to : Nat) : gF → Prop := fun f1 => arJ g f1 (h + 1) 2058 (cpM M fr to) ∧ ∀ q, q ≠ h + 1 → f1 q = f q
set_option maxRecDepth 100000 in
set_option maxHeartbeats 1000000 in
/-- copies -/
theorem c_X9_copies (l : Launch) (g : gE) (b0 n : Nat) (f : gF) (h : Nat) (Z M : Nat → Int) (fr to : Nat) (hO : mdO f h Z) (hP : arJ g f (h + 1) 2058 M) (hrg : b0 ≤ h ∧ h + 13 ≤ b0 + n) (hfr0 : fr + 147 ≤ 2058) (hto : to + 147 ≤ 2058) (hd : fr + 147 ≤ to ∨ to + 147 ≤ fr) : cV l yX9_copies cX9_copies 4 none 0 0 [.ref h, .int (zI (↑fr : Int)), .int (zI (↑to : Int))] g b0 n f (po_X9_copies g f h Z M fr to) := by
  refine gs_v (cc := cX9_copies) (maxL := 4) (ret := none) (by decide) (Nat.le_of_ble_eq_true rfl) ?_
  intro p e0 s m args below meth c ls hx hb hr hml hown hts hlk hK hM hl
  have hl : lv_has ls 4 [(0, .ref h), (1, .int (zI (↑fr : Int))), (2, .int (zI (↑to : Int)))] := hl
  refine g_iconst hx hb dX9_copies_0 ?_
  refine lv_istore_n (lv' := [(3, .int (zI 0)), (0, .ref h), (1, .int (zI (↑fr : Int))), (2, .int (zI (↑to : Int)))]) hx hb dX9_copies_1 rfl hl (by decide) rfl (fun ls hl => ?_)
  have lp2 : ∀ (k : Nat), ∀ (i : Nat) (fL : gF) (H : Heap) (locs : List Loc) (ls : Array Slot), (147 - i < k) → (i ≤ 147) → (∀ q, q ≠ h + 1 → fL q = f q) → gH g b0 n fL s.heap H locs → (mdO fL h Z) → (arJ g fL (h + 1) 2058 (fun k => cpK M fr to i k)) → lv_has ls 4 [(0, .ref h), (1, .int (zI (↑fr : Int))), (2, .int (zI (↑to : Int))), (3, .int (zI (↑i : Int)))] → W p l e0 { frames := 0, cells := 0, slots := 0, locals := 0 } s m args below meth c H locs 0 0 (MQ below (va_Qv (po_X9_copies g f h Z M fr to) (gB g b0 n) (gA b0)) args s 0 0 (gA b0)) (F0 m 2 ls []) := by
    intro k
    induction k with
    | zero =>
      intro i fL H locs ls hk hi hfr hM hL0 hL1 hl
      exact absurd hk (Nat.not_lt_zero _)
    | succ k ih2 =>
      intro i fL H locs ls hk hi hfr hM hL0 hL1 hl
      refine lv_iload_n hx hb dX9_copies_2 rfl (lv_at hl 3 rfl) ?_
      refine g_sipush hx hb dX9_copies_3 (by decide) ?_
      refine g_icmp_ge (tgt := 31) hx hb dX9_copies_6 (by decide) ⟨by omega, by omega⟩ (by decide) (fun c6 => ?_) (fun c6 => ?_)
      · skip
        refine g_vret hx hb hr hlk hK hM dX9_copies_31 ?_
        have hi9 : i = 147 := by omega
        subst hi9
        exact ⟨hL1.cong (fun k hk => by simp only [cpK, cpM, mov]), (fun q hq => (hfr (q) (by omega)))⟩
      · skip
        refine lv_aload_n hx hb dX9_copies_9 rfl (lv_at hl 0 rfl) ?_
        refine g_get (ci := 11) (v := .ref (h + 1)) (C := RX9) (T := TX9) (N := 24) hx hb hts iU_X9 hown hK hM ⟨by omega, by omega⟩ hL0 rfl 1 (by decide) (hts _ u_1145) (fun _ h9 => h9) rfl dX9_copies_10 ?_
        refine lv_iload_n hx hb dX9_copies_13 rfl (lv_at hl 2 rfl) ?_
        refine lv_iload_n hx hb dX9_copies_14 rfl (lv_at hl 3 rfl) ?_
        refine g_iadd hx hb dX9_copies_15 ?_
        refine lv_aload_n hx hb dX9_copies_16 rfl (lv_at hl 0 rfl) ?_
        refine g_get (ci := 11) (v := .ref (h + 1)) (C := RX9) (T := TX9) (N := 24) hx hb hts iU_X9 hown hK hM ⟨by omega, by omega⟩ hL0 rfl 1 (by decide) (hts _ u_1145) (fun _ h9 => h9) rfl dX9_copies_17 ?_
        refine lv_iload_n hx hb dX9_copies_20 rfl (lv_at hl 1 rfl) ?_
        refine lv_iload_n hx hb dX9_copies_21 rfl (lv_at hl 3 rfl) ?_
        refine g_iadd hx hb dX9_copies_22 ?_
        refine g_lald hx hb hK hM ⟨by omega, by omega⟩ hL1 (by omega) (by omega) (by decide) dX9_copies_23 ?_
        show W _ _ _ _ _ _ _ _ _ _ _ _ _ _ _ (F0 _ _ _ (.long (zL (cpK M fr to i (fr + i))) :: _))
        refine g_last hx hb hK hM ⟨by omega, by omega⟩ hL1 (by omega) (by omega) (by decide) dX9_copies_24 (fun f1 H locs hM ha3 o2 => ?_)
        refine lv_iinc (v := zI ((↑i : Int) + 1)) (lv' := [(3, .int (zI ((↑i : Int) + 1))), (0, .ref h), (1, .int (zI (↑fr : Int))), (2, .int (zI (↑to : Int)))]) hx hb dX9_copies_25 hl (k := 3) rfl (zI_add _ _) (by decide) rfl (fun ls hl => ?_)
        refine lv_goto (tgt := 2) hx hb dX9_copies_28 (by decide) ?_
        have hf4 : f1 (h) = .inr (11, [.int (zI (Z 0)), .ref (h + 1), .ref (h + 2), .ref (h + 3), .ref (h + 4), .ref (h + 5), .ref (h + 6), .ref (h + 7), .ref (h + 8), .int (zI (Z 9)), .int (zI (Z 10)), .int (zI (Z 11)), .int (zI (Z 12)), .int (zI (Z 13)), .int (zI (Z 14)), .int (zI (Z 15)), .int (zI (Z 16)), .ref (h + 9), .ref (h + 10), .ref (h + 11), .int (zI (Z 20)), .int (zI (Z 21)), .int (zI (Z 22)), .ref (h + 12)]) := (o2 (h) (by omega)).trans hL0
        exact ih2 (i + 1) f1 _ _ _ (by omega) (by omega) (fun q hq => ((o2 (q) (by omega)).trans (hfr (q) (by omega)))) hM hf4 (ha3.cong (fun k9 hk9 => by simp only [cpK, pu] <;> (repeat' split) <;> first | rfl | omega | (congr 1; omega))) (lv_sub hl [1, 2, 3, 0] rfl)
  exact lp2 (148) 0 f _ _ _ (by omega) (by omega) (fun q hq => rfl) hM hO (hP.cong (fun k9 hk9 => by simp only [cpK, pu] <;> (repeat' split) <;> first | rfl | omega | (congr 1; omega))) (lv_sub hl [1, 2, 3, 0] rfl)

def po_X9_planOf (g : gE) (f : gF) (b : Nat) : Int32 → gF → Prop := fun r f1 => r = zI (↑(294 * b + 0) : Int) ∧ f = f1
set_option maxRecDepth 100000 in
set_option maxHeartbeats 1000000 in
/-- planOf -/
theorem c_X9_planOf (l : Launch) (g : gE) (b0 n : Nat) (f : gF) (b : Nat) (hb : b < 6) : cI l yX9_planOf cX9_planOf 1 (some .int) 0 0 [.int (zI (↑b : Int))] g b0 n f (po_X9_planOf g f b) := by
  refine gs_i (cc := cX9_planOf) (maxL := 1) (ret := (some .int)) (by decide) (Nat.le_of_ble_eq_true rfl) ?_
  intro p e0 s m args below meth c ls hx hb hr hml hown hts hlk hK hM hl
  have hl : lv_has ls 1 [(0, .int (zI (↑b : Int)))] := hl
  refine g_iconst hx hb dX9_planOf_0 ?_
  refine lv_iload_n hx hb dX9_planOf_1 rfl (lv_at hl 0 rfl) ?_
  refine g_imul hx hb dX9_planOf_2 ?_
  refine g_sipush hx hb dX9_planOf_3 (by decide) ?_
  refine g_imul hx hb dX9_planOf_6 ?_
  refine g_iret hx hb hr hlk hK hM dX9_planOf_7 ?_
  exact ⟨congrArg zI (by omega), rfl⟩

def po_X9_startOf (g : gE) (f : gF) (b : Nat) : Int32 → gF → Prop := fun r f1 => r = zI (↑(294 * b + 147) : Int) ∧ f = f1
set_option maxRecDepth 100000 in
set_option maxHeartbeats 1000000 in
/-- startOf -/
theorem c_X9_startOf (l : Launch) (g : gE) (b0 n : Nat) (f : gF) (b : Nat) (hb : b < 6) : cI l yX9_startOf cX9_startOf 1 (some .int) 0 0 [.int (zI (↑b : Int))] g b0 n f (po_X9_startOf g f b) := by
  refine gs_i (cc := cX9_startOf) (maxL := 1) (ret := (some .int)) (by decide) (Nat.le_of_ble_eq_true rfl) ?_
  intro p e0 s m args below meth c ls hx hb hr hml hown hts hlk hK hM hl
  have hl : lv_has ls 1 [(0, .int (zI (↑b : Int)))] := hl
  refine g_iconst hx hb dX9_startOf_0 ?_
  refine lv_iload_n hx hb dX9_startOf_1 rfl (lv_at hl 0 rfl) ?_
  refine g_imul hx hb dX9_startOf_2 ?_
  refine g_iconst hx hb dX9_startOf_3 ?_
  refine g_iadd hx hb dX9_startOf_4 ?_
  refine g_sipush hx hb dX9_startOf_5 (by decide) ?_
  refine g_imul hx hb dX9_startOf_8 ?_
  refine g_iret hx hb hr hlk hK hM dX9_startOf_9 ?_
  exact ⟨congrArg zI (by omega), rfl⟩

def po_X9_isEnvelope (g : gE) (f : gF) (h : Nat) (Z M : Nat → Int) (aa : Nat) (P : Nat → Int) (e : Int) : Int32 → gF → Prop := fun r f1 => r = bI (0 ≤ e ∧ e < P 7) ∧ f = f1
set_option maxRecDepth 100000 in
set_option maxHeartbeats 1000000 in
/-- isEnvelope -/
theorem c_X9_isEnvelope (l : Launch) (g : gE) (b0 n : Nat) (f : gF) (h : Nat) (Z M : Nat → Int) (aa : Nat) (P : Nat → Int) (e : Int) (hO : mdO f h Z) (hP : mpAt g f h M aa P) (hrg : b0 ≤ h ∧ h + 13 ≤ b0 + n) (hat : Z 11 = ↑aa) (haa : aa + 147 ≤ 2058) (hcn7 : 0 ≤ P 7 ∧ P 7 ≤ 10) (hre : rI e) : cI l yX9_isEnvelope cX9_isEnvelope 2 (some .boolean) 1 25 [.ref h, .int (zI e)] g b0 n f (po_X9_isEnvelope g f h Z M aa P e) := by
  refine gs_i (cc := cX9_isEnvelope) (maxL := 2) (ret := (some .boolean)) (by decide) (Nat.le_of_ble_eq_true rfl) ?_
  intro p e0 s m args below meth c ls hx hb hr hml hown hts hlk hK hM hl
  have hl : lv_has ls 2 [(0, .ref h), (1, .int (zI e))] := hl
  refine lv_iload_n hx hb dX9_isEnvelope_0 rfl (lv_at hl 1 rfl) ?_
  refine g_i2l hx hb dX9_isEnvelope_1 hre ?_
  refine g_lconst (z := 0) hx hb dX9_isEnvelope_2 (by decide) ?_
  refine lv_aload_n hx hb dX9_isEnvelope_3 rfl (lv_at hl 0 rfl) ?_
  refine g_bipush hx hb dX9_isEnvelope_4 (by decide) ?_
  have hC1 := c_X9_n l g b0 n f h Z M aa P 7 (7) hO hP hrg hat haa (by omega) (by omega)
  refine g_callVi (ci := 11) (C := RX9) (T := TX9) (N := 24) (As := [.int (zI 7)]) (rest := [.long (zL 0), .long (zL e)]) ⟨hx, hb, hml, hown, hts⟩ hK hM hC1 (cuV (n := 1) hts u_1249 u_1246 u_10 (by decide) u_1248 us_30 ⟨Nat.le_of_ble_eq_true rfl, Nat.le_of_ble_eq_true rfl⟩) ⟨by omega, by omega⟩ hO rfl rfl hl.1 rfl (Nat.le_of_ble_eq_true rfl) dX9_isEnvelope_6 ⟨Nat.zero_le _, Nat.zero_le _⟩ (fun r6 f2 H locs hM hp3 => ?_)
  obtain ⟨rfl, rfl⟩ := hp3
  refine g_iconst hx hb dX9_isEnvelope_9 ?_
  refine g_isub hx hb dX9_isEnvelope_10 ?_
  refine g_i2l hx hb dX9_isEnvelope_11 ⟨by omega, by omega⟩ ?_
  have hC4 := c_X9_in l g b0 n f e 0 ((P 7) - 1) (rI_L hre) (by decide) ⟨by omega, by omega⟩
  refine g_callSi (As := [.long (zL e), .long (zL 0), .long (zL ((P 7) - 1))]) (rest := []) ⟨hx, hb, hml, hown, hts⟩ hK hM hC4 (cuS (n := 3) hts u_1240 u_1238 u_10 (by decide) u_1239 ⟨Nat.le_of_ble_eq_true rfl, Nat.le_of_ble_eq_true rfl⟩) rfl hl.1 rfl (Nat.le_of_ble_eq_true rfl) dX9_isEnvelope_12 ⟨Nat.zero_le _, Nat.zero_le _⟩ (fun r12 f5 H locs hM hp6 => ?_)
  obtain ⟨rfl, rfl⟩ := hp6
  refine g_zret hx hb hr hlk hK hM dX9_isEnvelope_15 (bI_nar _) ?_
  exact ⟨bI_iff (by omega), rfl⟩

def po_X9_roomIn (g : gE) (f : gF) (h : Nat) (Z M : Nat → Int) (aa : Nat) (P : Nat → Int) (e : Nat) : Int64 → gF → Prop := fun r f1 => r = zL (rmI P e) ∧ f = f1
set_option maxRecDepth 100000 in
set_option maxHeartbeats 1000000 in
/-- roomIn -/
theorem c_X9_roomIn (l : Launch) (g : gE) (b0 n : Nat) (f : gF) (h : Nat) (Z M : Nat → Int) (aa : Nat) (P : Nat → Int) (e : Nat) (hO : mdO f h Z) (hP : mpAt g f h M aa P) (hrg : b0 ≤ h ∧ h + 13 ≤ b0 + n) (hat : Z 11 = ↑aa) (haa : aa + 147 ≤ 2058) (he : e < 10) (hbr : 0 ≤ P (11 + 4 * e) ∧ P (11 + 4 * e) ≤ 1000000000000000000) (hcp : -1 ≤ P (12 + 4 * e) ∧ P (12 + 4 * e) ≤ 9000000) : cL l yX9_roomIn cX9_roomIn 4 (some .long) 1 60 [.ref h, .int (zI (↑e : Int))] g b0 n f (po_X9_roomIn g f h Z M aa P e) := by
  refine gs_l (cc := cX9_roomIn) (maxL := 4) (ret := (some .long)) (by decide) (Nat.le_of_ble_eq_true rfl) ?_
  intro p e0 s m args below meth c ls hx hb hr hml hown hts hlk hK hM hl
  have hl : lv_has ls 4 [(0, .ref h), (1, .int (zI (↑e : Int)))] := hl
  have hbr1 := hbr.1
  have hbr2 := hbr.2
  have hcp1 := hcp.1
  have hcp2 := hcp.2
  refine lv_aload_n hx hb dX9_roomIn_0 rfl (lv_at hl 0 rfl) ?_
  refine g_bipush hx hb dX9_roomIn_1 (by decide) ?_
  refine g_iconst hx hb dX9_roomIn_3 ?_
  refine lv_iload_n hx hb dX9_roomIn_4 rfl (lv_at hl 1 rfl) ?_
  refine g_imul hx hb dX9_roomIn_5 ?_
  refine g_iadd hx hb dX9_roomIn_6 ?_
  refine g_iconst hx hb dX9_roomIn_7 ?_
  refine g_iadd hx hb dX9_roomIn_8 ?_
  have hC1 := c_X9_p l g b0 n f h Z M aa P ((11 + (4 * (↑e : Int))) + 1) (12 + 4 * e) hO hP hrg hat haa (by omega) (by omega)
  refine g_callVl (ci := 11) (C := RX9) (T := TX9) (N := 24) (As := [.int (zI ((11 + (4 * (↑e : Int))) + 1))]) (rest := []) ⟨hx, hb, hml, hown, hts⟩ hK hM hC1 (cuV (n := 1) hts u_1283 u_1280 u_10 (by decide) u_1282 us_37 ⟨Nat.le_of_ble_eq_true rfl, Nat.le_of_ble_eq_true rfl⟩) ⟨by omega, by omega⟩ hO rfl rfl hl.1 rfl (Nat.le_of_ble_eq_true rfl) dX9_roomIn_9 ⟨Nat.zero_le _, Nat.zero_le _⟩ (fun r9 f2 H locs hM hp3 => ?_)
  obtain ⟨rfl, rfl⟩ := hp3
  refine lv_lstore_n (lv' := [(2, .long (zL (P (12 + 4 * e)))), (0, .ref h), (1, .int (zI (↑e : Int)))]) hx hb dX9_roomIn_12 rfl hl (by decide) rfl (fun ls hl => ?_)
  refine lv_lload_n hx hb dX9_roomIn_13 rfl (lv_at hl 0 rfl) ?_
  refine g_lconst (z := 0) hx hb dX9_roomIn_14 (by decide) ?_
  refine g_lcmp_ge (tgt := 25) hx hb dX9_roomIn_15 dX9_roomIn_16 (by decide) ⟨by omega, by omega⟩ (by decide) (fun c15 => ?_) (fun c15 => ?_)
  · skip
    refine g_lconst (z := 0) hx hb dX9_roomIn_25 (by decide) ?_
    refine lv_lload_n hx hb dX9_roomIn_26 rfl (lv_at hl 0 rfl) ?_
    refine lv_aload_n hx hb dX9_roomIn_27 rfl (lv_at hl 1 rfl) ?_
    refine g_bipush hx hb dX9_roomIn_28 (by decide) ?_
    refine g_iconst hx hb dX9_roomIn_30 ?_
    refine lv_iload_n hx hb dX9_roomIn_31 rfl (lv_at hl 2 rfl) ?_
    refine g_imul hx hb dX9_roomIn_32 ?_
    refine g_iadd hx hb dX9_roomIn_33 ?_
    have hC4 := c_X9_p l g b0 n f h Z M aa P (11 + (4 * (↑e : Int))) (11 + 4 * e) hO hP hrg hat haa (by omega) (by omega)
    refine g_callVl (ci := 11) (C := RX9) (T := TX9) (N := 24) (As := [.int (zI (11 + (4 * (↑e : Int))))]) (rest := [.long (zL (P (12 + 4 * e))), .long (zL 0)]) ⟨hx, hb, hml, hown, hts⟩ hK hM hC4 (cuV (n := 1) hts u_1283 u_1280 u_10 (by decide) u_1282 us_37 ⟨Nat.le_of_ble_eq_true rfl, Nat.le_of_ble_eq_true rfl⟩) ⟨by omega, by omega⟩ hO rfl rfl hl.1 rfl (Nat.le_of_ble_eq_true rfl) dX9_roomIn_34 ⟨Nat.zero_le _, Nat.zero_le _⟩ (fun r34 f5 H locs hM hp6 => ?_)
    obtain ⟨rfl, rfl⟩ := hp6
    refine g_lsub hx hb dX9_roomIn_37 ?_
    refine g_lmax hx hb (hml.trans hl.1.symm) hown (hts _ u_1306) hts (Nat.le_of_ble_eq_true rfl) (Nat.le_of_ble_eq_true rfl) (Nat.zero_le _) (Nat.zero_le _) (by decide) ⟨by omega, by omega⟩ dX9_roomIn_38 ?_
    refine g_lret hx hb hr hlk hK hM dX9_roomIn_41 ?_
    refine ⟨?_, rfl⟩
    unfold rmI
    first | rw [if_pos (by omega)] | rw [if_neg (by omega)]
  · skip
    refine g_ldc2 (z := 9223372036854775807) hx hb hown (hts _ u_1305) dX9_roomIn_19 (by decide) ?_
    refine lv_goto (tgt := 41) hx hb dX9_roomIn_22 (by decide) ?_
    refine g_lret hx hb hr hlk hK hM dX9_roomIn_41 ?_
    refine ⟨?_, rfl⟩
    unfold rmI
    first | rw [if_pos (by omega)] | rw [if_neg (by omega)]

def po_X9_put (g : gE) (f : gF) (h : Nat) (Z M : Nat → Int) (aa : Nat) (P : Nat → Int) (e : Nat) (a : Int) : Int64 → gF → Prop := fun r f1 => r = zL (sIs P e a) ∧ mpAt g f1 h M aa (sPut P e a) ∧ ∀ q, q ≠ h + 1 → f1 q = f q
set_option maxRecDepth 100000 in
set_option maxHeartbeats 1000000 in
/-- put -/
theorem c_X9_put (l : Launch) (g : gE) (b0 n : Nat) (f : gF) (h : Nat) (Z M : Nat → Int) (aa : Nat) (P : Nat → Int) (e : Nat) (a : Int) (hO : mdO f h Z) (hP : mpAt g f h M aa P) (hrg : b0 ≤ h ∧ h + 13 ≤ b0 + n) (hat : Z 11 = ↑aa) (haa : aa + 147 ≤ 2058) (he : e < 10) (hbr : 0 ≤ P (11 + 4 * e) ∧ P (11 + 4 * e) ≤ 1000000000000000000) (hcp : -1 ≤ P (12 + 4 * e) ∧ P (12 + 4 * e) ≤ 9000000) (har : 0 ≤ a ∧ a ≤ 1000000000000000000) : cL l yX9_put cX9_put 6 (some .long) 2 83 [.ref h, .int (zI (↑e : Int)), .long (zL a)] g b0 n f (po_X9_put g f h Z M aa P e a) := by
  refine gs_l (cc := cX9_put) (maxL := 6) (ret := (some .long)) (by decide) (Nat.le_of_ble_eq_true rfl) ?_
  intro p e0 s m args below meth c ls hx hb hr hml hown hts hlk hK hM hl
  have hl : lv_has ls 6 [(0, .ref h), (1, .int (zI (↑e : Int))), (2, .long (zL a))] := hl
  have hbr1 := hbr.1
  have hbr2 := hbr.2
  have hcp1 := hcp.1
  have hcp2 := hcp.2
  have har1 := har.1
  have har2 := har.2
  have hrm : rL (rmI P e) := by unfold rmI; split <;> exact ⟨by omega, by omega⟩
  have hmi := rmI_is (P := P) (e := e) (a := a) (by omega)
  refine lv_lload_n hx hb dX9_put_0 rfl (lv_at hl 2 rfl) ?_
  refine lv_aload_n hx hb dX9_put_1 rfl (lv_at hl 0 rfl) ?_
  refine lv_iload_n hx hb dX9_put_2 rfl (lv_at hl 1 rfl) ?_
  have hC1 := c_X9_roomIn l g b0 n f h Z M aa P e hO hP hrg hat haa he hbr hcp
  refine g_callVl (ci := 11) (C := RX9) (T := TX9) (N := 24) (As := [.int (zI (↑e : Int))]) (rest := [.long (zL a)]) ⟨hx, hb, hml, hown, hts⟩ hK hM hC1 (cuV (n := 1) hts u_1304 u_1301 u_10 (by decide) u_1303 us_42 ⟨Nat.le_of_ble_eq_true rfl, Nat.le_of_ble_eq_true rfl⟩) ⟨by omega, by omega⟩ hO rfl rfl hl.1 rfl (Nat.le_of_ble_eq_true rfl) dX9_put_3 ⟨Nat.zero_le _, Nat.zero_le _⟩ (fun r3 f2 H locs hM hp3 => ?_)
  obtain ⟨rfl, rfl⟩ := hp3
  refine g_lmin hx hb (hml.trans hl.1.symm) hown (hts _ u_1307) hts (Nat.le_of_ble_eq_true rfl) (Nat.le_of_ble_eq_true rfl) (Nat.zero_le _) (Nat.zero_le _) ⟨by omega, by omega⟩ hrm dX9_put_6 ?_
  refine lv_lstore (lv' := [(4, .long (zL (min a (rmI P e)))), (0, .ref h), (1, .int (zI (↑e : Int))), (2, .long (zL a))]) hx hb dX9_put_9 hl (by decide) rfl (fun ls hl => ?_)
  refine lv_aload_n hx hb dX9_put_11 rfl (lv_at hl 1 rfl) ?_
  refine g_bipush hx hb dX9_put_12 (by decide) ?_
  refine g_iconst hx hb dX9_put_14 ?_
  refine lv_iload_n hx hb dX9_put_15 rfl (lv_at hl 2 rfl) ?_
  refine g_imul hx hb dX9_put_16 ?_
  refine g_iadd hx hb dX9_put_17 ?_
  refine lv_lload hx hb dX9_put_18 (lv_at hl 0 rfl) ?_
  have hC4 := c_X9_adds l g b0 n f h Z M aa P (11 + (4 * (↑e : Int))) (11 + 4 * e) (min a (rmI P e)) hO hP hrg hat haa (by omega) (by omega)
  refine g_callVv (ci := 11) (C := RX9) (T := TX9) (N := 24) (As := [.int (zI (11 + (4 * (↑e : Int)))), .long (zL (min a (rmI P e)))]) (rest := []) ⟨hx, hb, hml, hown, hts⟩ hK hM hC4 (cuV (n := 2) hts u_1261 u_1258 u_10 (by decide) u_1260 us_33 ⟨Nat.le_of_ble_eq_true rfl, Nat.le_of_ble_eq_true rfl⟩) ⟨by omega, by omega⟩ hO rfl rfl hl.1 rfl (Nat.le_of_ble_eq_true rfl) dX9_put_20 ⟨Nat.zero_le _, Nat.zero_le _⟩ (fun f5 H locs hM hp6 => ?_)
  obtain ⟨hn7, o8⟩ := hp6
  obtain ⟨Pz9, hPz9⟩ : ∃ Q : Nat → Int, Q = pu P (11 + 4 * e) (P (11 + 4 * e) + (min a (rmI P e))) := ⟨_, rfl⟩
  rw [← hPz9] at hn7
  refine lv_lload hx hb dX9_put_23 (lv_at hl 0 rfl) ?_
  refine g_lret hx hb hr hlk hK hM dX9_put_25 ?_
  have hS : Pz9 = sPut P e a := by rw [hPz9, hmi]; rfl
  exact ⟨by rw [hmi], by rw [← hS]; exact hn7, (fun q hq => (o8 (q) (by omega)))⟩
