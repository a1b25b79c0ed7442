def po_X6_next (g : gE) (f : gF) (h : Nat) (T C : Nat → Int) (L cnt a : Nat) (nm : Int) : Int32 → gF → Prop := fun r f1 => r = zI (nx T L a) ∧ f = f1
set_option maxRecDepth 100000 in
set_option maxHeartbeats 1000000 in
/-- next() -/
theorem c_X6_next (l : Launch) (g : gE) (b0 n : Nat) (f : gF) (h : Nat) (T C : Nat → Int) (L cnt a : Nat) (nm : Int) (hE : rdAt g f h T C (↑L : Int) (↑cnt : Int) (↑a : Int) nm) (hrg : b0 ≤ h ∧ h + 3 ≤ b0 + n) (hT : txOk T) (hL : L ≤ 60) (ha : a ≤ L) : cI l yX6_next cX6_next 1 (some .int) 0 0 [.ref h] g b0 n f (po_X6_next g f h T C L cnt a nm) := by
  refine gs_i (cc := cX6_next) (maxL := 1) (ret := (some .int)) (by decide) (Nat.le_of_ble_eq_true rfl) ?_
  intro p e0 s m args below meth c ls hx hb hr hml hown hts hlk hK hM hl
  have hl : lv_has ls 1 [(0, .ref h)] := hl
  have hnx := nx_in (L := L) (a := a) hT
  refine lv_aload_n hx hb dX6_next_0 rfl (lv_at hl 0 rfl) ?_
  obtain ⟨ho1, ho2, ho3⟩ := id hE
  refine g_get (ci := 8) (v := .int (zI (↑a : Int))) (C := RX6) (T := TX6) (N := 6) hx hb hts iU_X6 hown hK hM ⟨by omega, by omega⟩ ho1 rfl 4 (by decide) (hts _ u_259) (fun _ h9 => h9) rfl dX6_next_1 ?_
  refine g_if_lt (tgt := 39) hx hb dX6_next_4 (by decide) ⟨by omega, by omega⟩ (fun c4 => ?_) (fun c4 => ?_)
  · skip
    refine g_iconst hx hb dX6_next_39 ?_
    refine g_iret hx hb hr hlk hK hM dX6_next_40 ?_
    refine ⟨?_, rfl⟩
    unfold nx
    rw [if_neg (by omega)]
  · skip
    refine lv_aload_n hx hb dX6_next_7 rfl (lv_at hl 0 rfl) ?_
    refine g_get (ci := 8) (v := .int (zI (↑a : Int))) (C := RX6) (T := TX6) (N := 6) hx hb hts iU_X6 hown hK hM ⟨by omega, by omega⟩ ho1 rfl 4 (by decide) (hts _ u_259) (fun _ h9 => h9) rfl dX6_next_8 ?_
    refine lv_aload_n hx hb dX6_next_11 rfl (lv_at hl 0 rfl) ?_
    refine g_get (ci := 8) (v := .int (zI (↑L : Int))) (C := RX6) (T := TX6) (N := 6) hx hb hts iU_X6 hown hK hM ⟨by omega, by omega⟩ ho1 rfl 2 (by decide) (hts _ u_255) (fun _ h9 => h9) rfl dX6_next_12 ?_
    refine g_icmp_ge (tgt := 39) hx hb dX6_next_15 (by decide) ⟨by omega, by omega⟩ ⟨by omega, by omega⟩ (fun c15 => ?_) (fun c15 => ?_)
    · skip
      refine g_iconst hx hb dX6_next_39 ?_
      refine g_iret hx hb hr hlk hK hM dX6_next_40 ?_
      refine ⟨?_, rfl⟩
      unfold nx
      rw [if_neg (by omega)]
    · skip
      refine lv_aload_n hx hb dX6_next_18 rfl (lv_at hl 0 rfl) ?_
      refine g_get (ci := 8) (v := .int (zI (↑a : Int))) (C := RX6) (T := TX6) (N := 6) hx hb hts iU_X6 hown hK hM ⟨by omega, by omega⟩ ho1 rfl 4 (by decide) (hts _ u_259) (fun _ h9 => h9) rfl dX6_next_19 ?_
      refine g_bipush hx hb dX6_next_22 (by decide) ?_
      refine g_icmp_ge (tgt := 39) hx hb dX6_next_24 (by decide) ⟨by omega, by omega⟩ (by decide) (fun c24 => ?_) (fun c24 => ?_)
      · skip
        refine g_iconst hx hb dX6_next_39 ?_
        refine g_iret hx hb hr hlk hK hM dX6_next_40 ?_
        refine ⟨?_, rfl⟩
        unfold nx
        rw [if_neg (by omega)]
      · skip
        refine lv_aload_n hx hb dX6_next_27 rfl (lv_at hl 0 rfl) ?_
        refine g_get (ci := 8) (v := .ref (h + 1)) (C := RX6) (T := TX6) (N := 6) hx hb hts iU_X6 hown hK hM ⟨by omega, by omega⟩ ho1 rfl 0 (by decide) (hts _ u_253) (fun _ h9 => h9) rfl dX6_next_28 ?_
        refine lv_aload_n hx hb dX6_next_31 rfl (lv_at hl 0 rfl) ?_
        refine g_get (ci := 8) (v := .int (zI (↑a : Int))) (C := RX6) (T := TX6) (N := 6) hx hb hts iU_X6 hown hK hM ⟨by omega, by omega⟩ ho1 rfl 4 (by decide) (hts _ u_259) (fun _ h9 => h9) rfl dX6_next_32 ?_
        refine g_cald hx hb hK hM ⟨by omega, by omega⟩ ho2 (by omega) (by omega) (by decide) dX6_next_35 ?_
        show W _ _ _ _ _ _ _ _ _ _ _ _ _ _ _ (F0 _ _ _ (.int (zI (T a)) :: _))
        refine lv_goto (tgt := 40) hx hb dX6_next_36 (by decide) ?_
        refine g_iret hx hb hr hlk hK hM dX6_next_40 ?_
        refine ⟨?_, rfl⟩
        unfold nx
        rw [if_pos (by omega)]; try rfl

def po_X6_isDigit (g : gE) (f : gF) (h : Nat) (x : Int) : Int32 → gF → Prop := fun r f1 => r = bI (48 ≤ x ∧ x ≤ 57) ∧ f = f1
set_option maxRecDepth 100000 in
set_option maxHeartbeats 1000000 in
/-- isDigit(sign) -/
theorem c_X6_isDigit (l : Launch) (g : gE) (b0 n : Nat) (f : gF) (h : Nat) (x : Int) (hrx : rI x) : cI l yX6_isDigit cX6_isDigit 2 (some .boolean) 0 0 [.ref h, .int (zI x)] g b0 n f (po_X6_isDigit g f h x) := by
  refine gs_i (cc := cX6_isDigit) (maxL := 2) (ret := (some .boolean)) (by decide) (Nat.le_of_ble_eq_true rfl) ?_
  intro p e0 s m args below meth c ls hx hb hr hml hown hts hlk hK hM hl
  have hl : lv_has ls 2 [(0, .ref h), (1, .int (zI x))] := hl
  refine lv_iload_n hx hb dX6_isDigit_0 rfl (lv_at hl 1 rfl) ?_
  refine g_bipush hx hb dX6_isDigit_1 (by decide) ?_
  refine g_icmp_lt (tgt := 16) hx hb dX6_isDigit_3 (by decide) hrx (by decide) (fun c3 => ?_) (fun c3 => ?_)
  · skip
    refine g_iconst hx hb dX6_isDigit_16 ?_
    refine g_zret hx hb hr hlk hK hM dX6_isDigit_17 rfl ?_
    refine ⟨?_, rfl⟩
    show zI 0 = _
    first | exact (bI_t (by omega)).symm | exact (bI_f (by omega)).symm
  · skip
    refine lv_iload_n hx hb dX6_isDigit_6 rfl (lv_at hl 1 rfl) ?_
    refine g_bipush hx hb dX6_isDigit_7 (by decide) ?_
    refine g_icmp_gt (tgt := 16) hx hb dX6_isDigit_9 (by decide) hrx (by decide) (fun c9 => ?_) (fun c9 => ?_)
    · skip
      refine g_iconst hx hb dX6_isDigit_16 ?_
      refine g_zret hx hb hr hlk hK hM dX6_isDigit_17 rfl ?_
      refine ⟨?_, rfl⟩
      show zI 0 = _
      first | exact (bI_t (by omega)).symm | exact (bI_f (by omega)).symm
    · skip
      refine g_iconst hx hb dX6_isDigit_12 ?_
      refine lv_goto (tgt := 17) hx hb dX6_isDigit_13 (by decide) ?_
      refine g_zret hx hb hr hlk hK hM dX6_isDigit_17 rfl ?_
      refine ⟨?_, rfl⟩
      show zI 1 = _
      first | exact (bI_t (by omega)).symm | exact (bI_f (by omega)).symm

def po_X6_accept (g : gE) (f : gF) (h : Nat) (T C : Nat → Int) (L cnt a : Nat) (nm : Int) (x : Int) : Int32 → gF → Prop := fun r f1 => (nx T L a = x ∧ r = zI 1 ∧ rdAt g f1 h T C (↑L : Int) (↑cnt : Int) ((↑a : Int) + 1) nm ∧ ∀ q, (q < h ∨ h + 3 ≤ q) → f1 q = f q) ∨ (nx T L a ≠ x ∧ r = zI 0 ∧ f = f1)
set_option maxRecDepth 100000 in
set_option maxHeartbeats 1000000 in
/-- accept(sign) -/
theorem c_X6_accept (l : Launch) (g : gE) (b0 n : Nat) (f : gF) (h : Nat) (T C : Nat → Int) (L cnt a : Nat) (nm : Int) (x : Int) (hE : rdAt g f h T C (↑L : Int) (↑cnt : Int) (↑a : Int) nm) (hrg : b0 ≤ h ∧ h + 3 ≤ b0 + n) (hT : txOk T) (hL : L ≤ 60) (ha : a ≤ L) (hx0 : 0 ≤ x) (hx1 : x < 65536) : cI l yX6_accept cX6_accept 2 (some .boolean) 1 20 [.ref h, .int (zI x)] g b0 n f (po_X6_accept g f h T C L cnt a nm x) := by
  refine gs_i (cc := cX6_accept) (maxL := 2) (ret := (some .boolean)) (by decide) (Nat.le_of_ble_eq_true rfl) ?_
  intro p e0 s m args below meth c ls hx hb hr hml hown hts hlk hK hM hl
  have hl : lv_has ls 2 [(0, .ref h), (1, .int (zI x))] := hl
  have hnx := nx_in (L := L) (a := a) hT
  refine lv_aload_n hx hb dX6_accept_0 rfl (lv_at hl 0 rfl) ?_
  obtain ⟨ho1, ho2, ho3⟩ := id hE
  have hw4 : rdAt g f h T C (↑L : Int) (↑cnt : Int) (↑a : Int) nm := ⟨ho1, ho2, ho3⟩
  have hC5 := c_X6_next l g b0 n f h T C L cnt a nm hw4 hrg hT hL (by omega)
  refine g_callVi (ci := 8) (C := RX6) (T := TX6) (N := 6) (As := []) (rest := []) ⟨hx, hb, hml, hown, hts⟩ hK hM hC5 (cuV (n := 0) hts u_322 u_319 u_9 (by decide) u_321 us_1 ⟨Nat.le_of_ble_eq_true rfl, Nat.le_of_ble_eq_true rfl⟩) ⟨by omega, by omega⟩ ho1 rfl rfl hl.1 rfl (Nat.le_of_ble_eq_true rfl) dX6_accept_1 ⟨Nat.zero_le _, Nat.zero_le _⟩ (fun r1 f6 H locs hM hp7 => ?_)
  obtain ⟨rfl, rfl⟩ := hp7
  refine lv_iload_n hx hb dX6_accept_4 rfl (lv_at hl 1 rfl) ?_
  refine g_icmp_eq (tgt := 10) hx hb dX6_accept_5 (by decide) (by have := nx_in (L := L) (a := a) hT; exact ⟨by omega, by omega⟩) ⟨by omega, by omega⟩ (fun c5 => ?_) (fun c5 => ?_)
  · skip
    refine lv_aload_n hx hb dX6_accept_10 rfl (lv_at hl 0 rfl) ?_
    refine lv_dup hx hb dX6_accept_11 rfl ?_
    refine g_get (ci := 8) (v := .int (zI (↑a : Int))) (C := RX6) (T := TX6) (N := 6) hx hb hts iU_X6 hown hK hM ⟨by omega, by omega⟩ ho1 rfl 4 (by decide) (hts _ u_259) (fun _ h9 => h9) rfl dX6_accept_12 ?_
    refine g_iconst hx hb dX6_accept_15 ?_
    refine g_iadd hx hb dX6_accept_16 ?_
    refine g_put (ci := 8) (v := .int (zI ((↑a : Int) + 1))) (ty := .int) (C := RX6) (T := TX6) (N := 6) hx hb hts iU_X6 tyX6 tyX6_ok nmX6 hown hK hM ⟨by omega, by omega⟩ ho1 rfl 4 (by decide) (hts _ u_259) (fun _ h9 => h9) rfl (by decide +kernel) rfl rfl (Nat.le_of_ble_eq_true rfl) dX6_accept_17 (fun f8 H locs hM hf10 o9 => ?_)
    have hf10 : f8 (h) = .inr (8, [.ref (h + 1), .ref (h + 2), .int (zI (↑L : Int)), .int (zI (↑cnt : Int)), .int (zI ((↑a : Int) + 1)), .int (zI nm)]) := hf10
    refine g_iconst hx hb dX6_accept_20 ?_
    have hf11 := ho2.kept (o9 (h + 1) (by omega))
    have hf12 := ho3.kept (o9 (h + 2) (by omega))
    refine g_zret hx hb hr hlk hK hM dX6_accept_21 rfl ?_
    exact Or.inl ⟨by omega, rfl, ⟨hf10, hf11, hf12⟩, (fun q hq => (o9 (q) (by omega)))⟩
  · skip
    refine g_iconst hx hb dX6_accept_8 ?_
    refine g_zret hx hb hr hlk hK hM dX6_accept_9 rfl ?_
    exact Or.inr ⟨by omega, rfl, rfl⟩

def po_X6_acceptDigit (g : gE) (f : gF) (h : Nat) (T C : Nat → Int) (L cnt a : Nat) (nm : Int) : Int32 → gF → Prop := fun r f1 => (dg T L a ∧ r = zI 1 ∧ rdAt g f1 h T C (↑L : Int) (↑cnt : Int) ((↑a : Int) + 1) nm ∧ ∀ q, (q < h ∨ h + 3 ≤ q) → f1 q = f q) ∨ (¬ dg T L a ∧ r = zI 0 ∧ f = f1)
set_option maxRecDepth 100000 in
set_option maxHeartbeats 1000000 in
/-- acceptDigit() -/
theorem c_X6_acceptDigit (l : Launch) (g : gE) (b0 n : Nat) (f : gF) (h : Nat) (T C : Nat → Int) (L cnt a : Nat) (nm : Int) (hE : rdAt g f h T C (↑L : Int) (↑cnt : Int) (↑a : Int) nm) (hrg : b0 ≤ h ∧ h + 3 ≤ b0 + n) (hT : txOk T) (hL : L ≤ 60) (ha : a ≤ L) : cI l yX6_acceptDigit cX6_acceptDigit 1 (some .boolean) 1 21 [.ref h] g b0 n f (po_X6_acceptDigit g f h T C L cnt a nm) := by
  refine gs_i (cc := cX6_acceptDigit) (maxL := 1) (ret := (some .boolean)) (by decide) (Nat.le_of_ble_eq_true rfl) ?_
  intro p e0 s m args below meth c ls hx hb hr hml hown hts hlk hK hM hl
  have hl : lv_has ls 1 [(0, .ref h)] := hl
  have hnx := nx_in (L := L) (a := a) hT
  refine lv_aload_n hx hb dX6_acceptDigit_0 rfl (lv_at hl 0 rfl) ?_
  refine lv_aload_n hx hb dX6_acceptDigit_1 rfl (lv_at hl 0 rfl) ?_
  obtain ⟨ho1, ho2, ho3⟩ := id hE
  have hw4 : rdAt g f h T C (↑L : Int) (↑cnt : Int) (↑a : Int) nm := ⟨ho1, ho2, ho3⟩
  have hC5 := c_X6_next l g b0 n f h T C L cnt a nm hw4 hrg hT hL (by omega)
  refine g_callVi (ci := 8) (C := RX6) (T := TX6) (N := 6) (As := []) (rest := [.ref h]) ⟨hx, hb, hml, hown, hts⟩ hK hM hC5 (cuV (n := 0) hts u_322 u_319 u_9 (by decide) u_321 us_1 ⟨Nat.le_of_ble_eq_true rfl, Nat.le_of_ble_eq_true rfl⟩) ⟨by omega, by omega⟩ ho1 rfl rfl hl.1 rfl (Nat.le_of_ble_eq_true rfl) dX6_acceptDigit_2 ⟨Nat.zero_le _, Nat.zero_le _⟩ (fun r2 f6 H locs hM hp7 => ?_)
  obtain ⟨rfl, rfl⟩ := hp7
  have hC8 := c_X6_isDigit l g b0 n f h (nx T L a) (by have := nx_in (L := L) (a := a) hT; exact ⟨by omega, by omega⟩)
  refine g_callVi (ci := 8) (C := RX6) (T := TX6) (N := 6) (As := [.int (zI (nx T L a))]) (rest := []) ⟨hx, hb, hml, hown, hts⟩ hK hM hC8 (cuV (n := 1) hts u_334 u_331 u_9 (by decide) u_333 us_4 ⟨Nat.le_of_ble_eq_true rfl, Nat.le_of_ble_eq_true rfl⟩) ⟨by omega, by omega⟩ ho1 rfl rfl hl.1 rfl (Nat.le_of_ble_eq_true rfl) dX6_acceptDigit_5 ⟨Nat.zero_le _, Nat.zero_le _⟩ (fun r5 f9 H locs hM hp10 => ?_)
  obtain ⟨rfl, rfl⟩ := hp10
  refine g_ifb_ne (tgt := 13) hx hb dX6_acceptDigit_8 (by decide) (fun c8 => ?_) (fun c8 => ?_)
  · skip
    refine lv_aload_n hx hb dX6_acceptDigit_13 rfl (lv_at hl 0 rfl) ?_
    refine lv_dup hx hb dX6_acceptDigit_14 rfl ?_
    refine g_get (ci := 8) (v := .int (zI (↑a : Int))) (C := RX6) (T := TX6) (N := 6) hx hb hts iU_X6 hown hK hM ⟨by omega, by omega⟩ ho1 rfl 4 (by decide) (hts _ u_259) (fun _ h9 => h9) rfl dX6_acceptDigit_15 ?_
    refine g_iconst hx hb dX6_acceptDigit_18 ?_
    refine g_iadd hx hb dX6_acceptDigit_19 ?_
    refine g_put (ci := 8) (v := .int (zI ((↑a : Int) + 1))) (ty := .int) (C := RX6) (T := TX6) (N := 6) hx hb hts iU_X6 tyX6 tyX6_ok nmX6 hown hK hM ⟨by omega, by omega⟩ ho1 rfl 4 (by decide) (hts _ u_259) (fun _ h9 => h9) rfl (by decide +kernel) rfl rfl (Nat.le_of_ble_eq_true rfl) dX6_acceptDigit_20 (fun f11 H locs hM hf13 o12 => ?_)
    have hf13 : f11 (h) = .inr (8, [.ref (h + 1), .ref (h + 2), .int (zI (↑L : Int)), .int (zI (↑cnt : Int)), .int (zI ((↑a : Int) + 1)), .int (zI nm)]) := hf13
    refine g_iconst hx hb dX6_acceptDigit_23 ?_
    have hf14 := ho2.kept (o12 (h + 1) (by omega))
    have hf15 := ho3.kept (o12 (h + 2) (by omega))
    refine g_zret hx hb hr hlk hK hM dX6_acceptDigit_24 rfl ?_
    exact Or.inl ⟨by first | exact c8 | omega, rfl, ⟨hf13, hf14, hf15⟩, (fun q hq => (o12 (q) (by omega)))⟩
  · skip
    refine g_iconst hx hb dX6_acceptDigit_11 ?_
    refine g_zret hx hb hr hlk hK hM dX6_acceptDigit_12 rfl ?_
    exact Or.inr ⟨by first | exact c8 | omega, rfl, rfl⟩

def po_X6_acceptPlace (g : gE) (f : gF) (h : Nat) (T C : Nat → Int) (L cnt a : Nat) (nm : Int) : Int32 → gF → Prop := fun r f1 => (plG T L a ∧ r = zI 1 ∧ rdAt g f1 h T C (↑L : Int) (↑cnt : Int) ((↑a : Int) + 1) nm ∧ ∀ q, (q < h ∨ h + 3 ≤ q) → f1 q = f q) ∨ (¬ plG T L a ∧ r = zI 0 ∧ f = f1)
set_option maxRecDepth 100000 in
set_option maxHeartbeats 1000000 in
/-- acceptPlace() -/
theorem c_X6_acceptPlace (l : Launch) (g : gE) (b0 n : Nat) (f : gF) (h : Nat) (T C : Nat → Int) (L cnt a : Nat) (nm : Int) (hE : rdAt g f h T C (↑L : Int) (↑cnt : Int) (↑a : Int) nm) (hrg : b0 ≤ h ∧ h + 3 ≤ b0 + n) (hT : txOk T) (hL : L ≤ 60) (ha : a ≤ L) : cI l yX6_acceptPlace cX6_acceptPlace 1 (some .boolean) 2 41 [.ref h] g b0 n f (po_X6_acceptPlace g f h T C L cnt a nm) := by
  refine gs_i (cc := cX6_acceptPlace) (maxL := 1) (ret := (some .boolean)) (by decide) (Nat.le_of_ble_eq_true rfl) ?_
  intro p e0 s m args below meth c ls hx hb hr hml hown hts hlk hK hM hl
  have hl : lv_has ls 1 [(0, .ref h)] := hl
  have hnx := nx_in (L := L) (a := a) hT
  refine lv_aload_n hx hb dX6_acceptPlace_0 rfl (lv_at hl 0 rfl) ?_
  refine g_bipush hx hb dX6_acceptPlace_1 (by decide) ?_
  obtain ⟨ho1, ho2, ho3⟩ := id hE
  have hw4 : rdAt g f h T C (↑L : Int) (↑cnt : Int) (↑a : Int) nm := ⟨ho1, ho2, ho3⟩
  have hC5 := c_X6_accept l g b0 n f h T C L cnt a nm 112 hw4 hrg hT hL (by omega) (by decide) (by decide)
  refine g_callVi (ci := 8) (C := RX6) (T := TX6) (N := 6) (As := [.int (zI 112)]) (rest := []) ⟨hx, hb, hml, hown, hts⟩ hK hM hC5 (cuV (n := 1) hts u_346 u_343 u_9 (by decide) u_345 us_7 ⟨Nat.le_of_ble_eq_true rfl, Nat.le_of_ble_eq_true rfl⟩) ⟨by omega, by omega⟩ ho1 rfl rfl hl.1 rfl (Nat.le_of_ble_eq_true rfl) dX6_acceptPlace_3 ⟨Nat.zero_le _, Nat.zero_le _⟩ (fun r3 f6 H locs hM hp7 => ?_)
  rcases hp7 with ⟨hq10, rfl, hn8, o9⟩ | ⟨hq10, rfl, rfl⟩
  · skip
    have hlthq10 : a < L := nx_lt (T := T) (L := L) (a := a) (by omega)
    have hw11 : rdAt g f6 h T C (↑L : Int) (↑cnt : Int) (↑(a + 1) : Int) nm := by rw [Int.natCast_add]; exact hn8
    refine g_if_ne (tgt := 16) hx hb dX6_acceptPlace_6 (by decide) (by decide) (fun c6 => ?_) (fun c6 => ?_)
    · skip
      refine g_iconst hx hb dX6_acceptPlace_16 ?_
      refine lv_goto (tgt := 21) hx hb dX6_acceptPlace_17 (by decide) ?_
      refine g_zret hx hb hr hlk hK hM dX6_acceptPlace_21 rfl ?_
      exact Or.inl ⟨by first | exact Or.inl (by assumption) | exact Or.inr (by assumption), rfl, hw11, (fun q hq => (o9 (q) (by omega)))⟩
    · exact absurd c6 (by decide)
  · skip
    refine g_if_ne (tgt := 16) hx hb dX6_acceptPlace_6 (by decide) (by decide) (fun c6 => ?_) (fun c6 => ?_)
    · exact absurd c6 (by decide)
    · skip
      refine lv_aload_n hx hb dX6_acceptPlace_9 rfl (lv_at hl 0 rfl) ?_
      obtain ⟨ho12, ho13, ho14⟩ := id hw4
      have hw15 : rdAt g f h T C (↑L : Int) (↑cnt : Int) (↑a : Int) nm := ⟨ho12, ho13, ho14⟩
      have hC16 := c_X6_acceptDigit l g b0 n f h T C L cnt a nm  hw15 hrg hT hL (by omega) 
      refine g_callVi (ci := 8) (C := RX6) (T := TX6) (N := 6) (As := []) (rest := []) ⟨hx, hb, hml, hown, hts⟩ hK hM hC16 (cuV (n := 0) hts u_342 u_339 u_9 (by decide) u_341 us_6 ⟨Nat.le_of_ble_eq_true rfl, Nat.le_of_ble_eq_true rfl⟩) ⟨by omega, by omega⟩ ho12 rfl rfl hl.1 rfl (Nat.le_of_ble_eq_true rfl) dX6_acceptPlace_10 ⟨Nat.zero_le _, Nat.zero_le _⟩ (fun r10 f17 H locs hM hp18 => ?_)
      rcases hp18 with ⟨hq21, rfl, hn19, o20⟩ | ⟨hq21, rfl, rfl⟩
      · skip
        have hlthq21 : a < L := nx_lt (T := T) (L := L) (a := a) (by omega)
        have hw22 : rdAt g f17 h T C (↑L : Int) (↑cnt : Int) (↑(a + 1) : Int) nm := by rw [Int.natCast_add]; exact hn19
        refine g_if_eq (tgt := 20) hx hb dX6_acceptPlace_13 (by decide) (by decide) (fun c13 => ?_) (fun c13 => ?_)
        · exact absurd c13 (by decide)
        · skip
          refine g_iconst hx hb dX6_acceptPlace_16 ?_
          refine lv_goto (tgt := 21) hx hb dX6_acceptPlace_17 (by decide) ?_
          refine g_zret hx hb hr hlk hK hM dX6_acceptPlace_21 rfl ?_
          exact Or.inl ⟨by first | exact Or.inl (by assumption) | exact Or.inr (by assumption), rfl, hw22, (fun q hq => (o20 (q) (by omega)))⟩
      · skip
        refine g_if_eq (tgt := 20) hx hb dX6_acceptPlace_13 (by decide) (by decide) (fun c13 => ?_) (fun c13 => ?_)
        · skip
          refine g_iconst hx hb dX6_acceptPlace_20 ?_
          refine g_zret hx hb hr hlk hK hM dX6_acceptPlace_21 rfl ?_
          exact Or.inr ⟨fun hh => by rcases hh with hh | hh <;> contradiction, rfl, rfl⟩
        · exact absurd c13 (by decide)

def po_X6_append (g : gE) (f : gF) (h : Nat) (T C : Nat → Int) (L : Nat) (cnt a nm x : Int) : Int32 → gF → Prop := fun r f1 => (L < 60 ∧ r = zI 1 ∧ rdAt g f1 h (pu T L x) C (↑L + 1) cnt a nm ∧ ∀ q, (q < h ∨ h + 3 ≤ q) → f1 q = f q) ∨ (¬ L < 60 ∧ r = zI 0 ∧ f = f1)
set_option maxRecDepth 100000 in
set_option maxHeartbeats 1000000 in
/-- append(character) -/
theorem c_X6_append (l : Launch) (g : gE) (b0 n : Nat) (f : gF) (h : Nat) (T C : Nat → Int) (L : Nat) (cnt a nm x : Int) (hE : rdAt g f h T C ↑L cnt a nm) (hrg : b0 ≤ h ∧ h + 3 ≤ b0 + n) (hL : L ≤ 60) (hx0 : 0 ≤ x) (hx1 : x < 65536) : cI l yX6_append cX6_append 2 (some .boolean) 0 0 [.ref h, .int (zI x)] g b0 n f (po_X6_append g f h T C L cnt a nm x) := by
  refine gs_i (cc := cX6_append) (maxL := 2) (ret := (some .boolean)) (by decide) (Nat.le_of_ble_eq_true rfl) ?_
  intro p e0 s m args below meth c ls hx hb hr hml hown hts hlk hK hM hl
  have hl : lv_has ls 2 [(0, .ref h), (1, .int (zI x))] := hl
  refine lv_aload_n hx hb dX6_append_0 rfl (lv_at hl 0 rfl) ?_
  obtain ⟨ho1, ho2, ho3⟩ := id hE
  refine g_get (ci := 8) (v := .int (zI (↑L : Int))) (C := RX6) (T := TX6) (N := 6) hx hb hts iU_X6 hown hK hM ⟨by omega, by omega⟩ ho1 rfl 2 (by decide) (hts _ u_255) (fun _ h9 => h9) rfl dX6_append_1 ?_
  refine g_if_lt (tgt := 16) hx hb dX6_append_4 (by decide) ⟨by omega, by omega⟩ (fun c4 => ?_) (fun c4 => ?_)
  · skip
    refine g_iconst hx hb dX6_append_16 ?_
    refine g_zret hx hb hr hlk hK hM dX6_append_17 rfl ?_
    exact Or.inr ⟨by omega, rfl, rfl⟩
  · skip
    refine lv_aload_n hx hb dX6_append_7 rfl (lv_at hl 0 rfl) ?_
    refine g_get (ci := 8) (v := .int (zI (↑L : Int))) (C := RX6) (T := TX6) (N := 6) hx hb hts iU_X6 hown hK hM ⟨by omega, by omega⟩ ho1 rfl 2 (by decide) (hts _ u_255) (fun _ h9 => h9) rfl dX6_append_8 ?_
    refine g_bipush hx hb dX6_append_11 (by decide) ?_
    refine g_icmp_lt (tgt := 18) hx hb dX6_append_13 (by decide) ⟨by omega, by omega⟩ (by decide) (fun c13 => ?_) (fun c13 => ?_)
    · skip
      refine lv_aload_n hx hb dX6_append_18 rfl (lv_at hl 0 rfl) ?_
      refine g_get (ci := 8) (v := .ref (h + 1)) (C := RX6) (T := TX6) (N := 6) hx hb hts iU_X6 hown hK hM ⟨by omega, by omega⟩ ho1 rfl 0 (by decide) (hts _ u_253) (fun _ h9 => h9) rfl dX6_append_19 ?_
      refine lv_aload_n hx hb dX6_append_22 rfl (lv_at hl 0 rfl) ?_
      refine g_get (ci := 8) (v := .int (zI (↑L : Int))) (C := RX6) (T := TX6) (N := 6) hx hb hts iU_X6 hown hK hM ⟨by omega, by omega⟩ ho1 rfl 2 (by decide) (hts _ u_255) (fun _ h9 => h9) rfl dX6_append_23 ?_
      refine lv_iload_n hx hb dX6_append_26 rfl (lv_at hl 1 rfl) ?_
      refine g_cast hx hb hK hM ⟨by omega, by omega⟩ ho2 (by omega) (by omega) (by omega) (by omega) (by decide) dX6_append_27 (fun f4 H locs hM ha6 o5 => ?_)
      refine lv_aload_n hx hb dX6_append_28 rfl (lv_at hl 0 rfl) ?_
      refine lv_dup hx hb dX6_append_29 rfl ?_
      have hf7 : f4 (h) = .inr (8, [.ref (h + 1), .ref (h + 2), .int (zI (↑L : Int)), .int (zI cnt), .int (zI a), .int (zI nm)]) := (o5 (h) (by omega)).trans ho1
      refine g_get (ci := 8) (v := .int (zI (↑L : Int))) (C := RX6) (T := TX6) (N := 6) hx hb hts iU_X6 hown hK hM ⟨by omega, by omega⟩ hf7 rfl 2 (by decide) (hts _ u_255) (fun _ h9 => h9) rfl dX6_append_30 ?_
      refine g_iconst hx hb dX6_append_33 ?_
      refine g_iadd hx hb dX6_append_34 ?_
      refine g_put (ci := 8) (v := .int (zI ((↑L : Int) + 1))) (ty := .int) (C := RX6) (T := TX6) (N := 6) hx hb hts iU_X6 tyX6 tyX6_ok nmX6 hown hK hM ⟨by omega, by omega⟩ hf7 rfl 2 (by decide) (hts _ u_255) (fun _ h9 => h9) rfl (by decide +kernel) rfl rfl (Nat.le_of_ble_eq_true rfl) dX6_append_35 (fun f8 H locs hM hf10 o9 => ?_)
      have hf10 : f8 (h) = .inr (8, [.ref (h + 1), .ref (h + 2), .int (zI ((↑L : Int) + 1)), .int (zI cnt), .int (zI a), .int (zI nm)]) := hf10
      refine g_iconst hx hb dX6_append_38 ?_
      have hf11 := ha6.kept (o9 (h + 1) (by omega))
      have hf12 := ho3.kept ((o9 (h + 2) (by omega)).trans (o5 (h + 2) (by omega)))
      refine g_zret hx hb hr hlk hK hM dX6_append_39 rfl ?_
      exact Or.inl ⟨by omega, rfl, ⟨hf10, hf11, hf12⟩, (fun q hq => ((o9 (q) (by omega)).trans (o5 (q) (by omega))))⟩
    · skip
      refine g_iconst hx hb dX6_append_16 ?_
      refine g_zret hx hb hr hlk hK hM dX6_append_17 rfl ?_
      exact Or.inr ⟨by omega, rfl, rfl⟩

def po_X6_partOf (g : gE) (f : gF) (h : Nat) (T C : Nat → Int) (L cnt a nm : Int) (st w : Nat) : Int32 → gF → Prop := fun r f1 => r = zI (C (st * 4 + w)) ∧ f = f1
set_option maxRecDepth 100000 in
set_option maxHeartbeats 1000000 in
/-- partOf(command, what), valid -/
theorem c_X6_partOf (l : Launch) (g : gE) (b0 n : Nat) (f : gF) (h : Nat) (T C : Nat → Int) (L cnt a nm : Int) (st w : Nat) (hE : rdAt g f h T C L cnt a nm) (hrg : b0 ≤ h ∧ h + 3 ≤ b0 + n) (hst : st < 30) (hw : w < 4) : cI l yX6_partOf cX6_partOf 3 (some .int) 0 0 [.ref h, .int (zI (↑st : Int)), .int (zI (↑w : Int))] g b0 n f (po_X6_partOf g f h T C L cnt a nm st w) := by
  refine gs_i (cc := cX6_partOf) (maxL := 3) (ret := (some .int)) (by decide) (Nat.le_of_ble_eq_true rfl) ?_
  intro p e0 s m args below meth c ls hx hb hr hml hown hts hlk hK hM hl
  have hl : lv_has ls 3 [(0, .ref h), (1, .int (zI (↑st : Int))), (2, .int (zI (↑w : Int)))] := hl
  refine lv_iload_n hx hb dX6_partOf_0 rfl (lv_at hl 1 rfl) ?_
  refine g_if_lt (tgt := 19) hx hb dX6_partOf_1 (by decide) ⟨by omega, by omega⟩ (fun c1 => ?_) (fun c1 => ?_)
  · skip
    refine g_iconst hx hb dX6_partOf_19 ?_
    refine g_iret hx hb hr hlk hK hM dX6_partOf_20 ?_
    exfalso; omega
  · skip
    refine lv_iload_n hx hb dX6_partOf_4 rfl (lv_at hl 1 rfl) ?_
    refine g_bipush hx hb dX6_partOf_5 (by decide) ?_
    refine g_icmp_ge (tgt := 19) hx hb dX6_partOf_7 (by decide) ⟨by omega, by omega⟩ (by decide) (fun c7 => ?_) (fun c7 => ?_)
    · skip
      refine g_iconst hx hb dX6_partOf_19 ?_
      refine g_iret hx hb hr hlk hK hM dX6_partOf_20 ?_
      exfalso; omega
    · skip
      refine lv_iload_n hx hb dX6_partOf_10 rfl (lv_at hl 2 rfl) ?_
      refine g_if_lt (tgt := 19) hx hb dX6_partOf_11 (by decide) ⟨by omega, by omega⟩ (fun c11 => ?_) (fun c11 => ?_)
      · skip
        refine g_iconst hx hb dX6_partOf_19 ?_
        refine g_iret hx hb hr hlk hK hM dX6_partOf_20 ?_
        exfalso; omega
      · skip
        refine lv_iload_n hx hb dX6_partOf_14 rfl (lv_at hl 2 rfl) ?_
        refine g_iconst hx hb dX6_partOf_15 ?_
        refine g_icmp_lt (tgt := 21) hx hb dX6_partOf_16 (by decide) ⟨by omega, by omega⟩ (by decide) (fun c16 => ?_) (fun c16 => ?_)
        · skip
          refine lv_aload_n hx hb dX6_partOf_21 rfl (lv_at hl 0 rfl) ?_
          obtain ⟨ho1, ho2, ho3⟩ := id hE
          refine g_get (ci := 8) (v := .ref (h + 2)) (C := RX6) (T := TX6) (N := 6) hx hb hts iU_X6 hown hK hM ⟨by omega, by omega⟩ ho1 rfl 1 (by decide) (hts _ u_254) (fun _ h9 => h9) rfl dX6_partOf_22 ?_
          refine lv_iload_n hx hb dX6_partOf_25 rfl (lv_at hl 1 rfl) ?_
          refine g_iconst hx hb dX6_partOf_26 ?_
          refine g_imul hx hb dX6_partOf_27 ?_
          refine lv_iload_n hx hb dX6_partOf_28 rfl (lv_at hl 2 rfl) ?_
          refine g_iadd hx hb dX6_partOf_29 ?_
          refine g_iald hx hb hK hM ⟨by omega, by omega⟩ ho3 (by omega) (by omega) (by decide) dX6_partOf_30 ?_
          show W _ _ _ _ _ _ _ _ _ _ _ _ _ _ _ (F0 _ _ _ (.int (zI (C ((st * 4) + w))) :: _))
          refine g_iret hx hb hr hlk hK hM dX6_partOf_31 ?_
          exact ⟨rfl, rfl⟩
        · skip
          refine g_iconst hx hb dX6_partOf_19 ?_
          refine g_iret hx hb hr hlk hK hM dX6_partOf_20 ?_
          exfalso; omega

def po_X6_keep (g : gE) (f : gF) (h : Nat) (T C : Nat → Int) (L cnt a : Nat) (nm : Int) (x y z u : Int) : Int32 → gF → Prop := fun r f1 => r = zI 1 ∧ rdAt g f1 h T (kp C cnt x y z u) (↑L : Int) (↑(cnt + 1) : Int) (↑a : Int) nm ∧ ∀ q, (q < h ∨ h + 3 ≤ q) → f1 q = f q
set_option maxRecDepth 100000 in
set_option maxHeartbeats 1000000 in
/-- keep, where there is room -/
theorem c_X6_keep (l : Launch) (g : gE) (b0 n : Nat) (f : gF) (h : Nat) (T C : Nat → Int) (L cnt a : Nat) (nm : Int) (x y z u : Int) (hE : rdAt g f h T C (↑L : Int) (↑cnt : Int) (↑a : Int) nm) (hrg : b0 ≤ h ∧ h + 3 ≤ b0 + n) (hc : cnt < 30) : cI l yX6_keep cX6_keep 6 (some .boolean) 0 0 [.ref h, .int (zI x), .int (zI y), .int (zI z), .int (zI u)] g b0 n f (po_X6_keep g f h T C L cnt a nm x y z u) := by
  refine gs_i (cc := cX6_keep) (maxL := 6) (ret := (some .boolean)) (by decide) (Nat.le_of_ble_eq_true rfl) ?_
  intro p e0 s m args below meth c ls hx hb hr hml hown hts hlk hK hM hl
  have hl : lv_has ls 6 [(0, .ref h), (1, .int (zI x)), (2, .int (zI y)), (3, .int (zI z)), (4, .int (zI u))] := hl
  refine lv_aload_n hx hb dX6_keep_0 rfl (lv_at hl 0 rfl) ?_
  obtain ⟨ho1, ho2, ho3⟩ := id hE
  refine g_get (ci := 8) (v := .int (zI (↑cnt : Int))) (C := RX6) (T := TX6) (N := 6) hx hb hts iU_X6 hown hK hM ⟨by omega, by omega⟩ ho1 rfl 3 (by decide) (hts _ u_257) (fun _ h9 => h9) rfl dX6_keep_1 ?_
  refine g_if_lt (tgt := 16) hx hb dX6_keep_4 (by decide) ⟨by omega, by omega⟩ (fun c4 => ?_) (fun c4 => ?_)
  · skip
    refine g_iconst hx hb dX6_keep_16 ?_
    refine g_zret hx hb hr hlk hK hM dX6_keep_17 rfl ?_
    exfalso; omega
  · skip
    refine lv_aload_n hx hb dX6_keep_7 rfl (lv_at hl 0 rfl) ?_
    refine g_get (ci := 8) (v := .int (zI (↑cnt : Int))) (C := RX6) (T := TX6) (N := 6) hx hb hts iU_X6 hown hK hM ⟨by omega, by omega⟩ ho1 rfl 3 (by decide) (hts _ u_257) (fun _ h9 => h9) rfl dX6_keep_8 ?_
    refine g_bipush hx hb dX6_keep_11 (by decide) ?_
    refine g_icmp_lt (tgt := 18) hx hb dX6_keep_13 (by decide) ⟨by omega, by omega⟩ (by decide) (fun c13 => ?_) (fun c13 => ?_)
    · skip
      refine lv_aload_n hx hb dX6_keep_18 rfl (lv_at hl 0 rfl) ?_
      refine g_get (ci := 8) (v := .int (zI (↑cnt : Int))) (C := RX6) (T := TX6) (N := 6) hx hb hts iU_X6 hown hK hM ⟨by omega, by omega⟩ ho1 rfl 3 (by decide) (hts _ u_257) (fun _ h9 => h9) rfl dX6_keep_19 ?_
      refine g_iconst hx hb dX6_keep_22 ?_
      refine g_imul hx hb dX6_keep_23 ?_
      refine lv_istore (lv' := [(5, .int (zI ((↑cnt : Int) * 4))), (0, .ref h), (1, .int (zI x)), (2, .int (zI y)), (3, .int (zI z)), (4, .int (zI u))]) hx hb dX6_keep_24 hl (by decide) rfl (fun ls hl => ?_)
      refine lv_aload_n hx hb dX6_keep_26 rfl (lv_at hl 1 rfl) ?_
      refine g_get (ci := 8) (v := .ref (h + 2)) (C := RX6) (T := TX6) (N := 6) hx hb hts iU_X6 hown hK hM ⟨by omega, by omega⟩ ho1 rfl 1 (by decide) (hts _ u_254) (fun _ h9 => h9) rfl dX6_keep_27 ?_
      refine lv_iload hx hb dX6_keep_30 (lv_at hl 0 rfl) ?_
      refine lv_iload_n hx hb dX6_keep_32 rfl (lv_at hl 2 rfl) ?_
      refine g_iast hx hb hK hM ⟨by omega, by omega⟩ ho3 (by omega) (by omega) (by decide) dX6_keep_33 (fun f4 H locs hM ha6 o5 => ?_)
      refine lv_aload_n hx hb dX6_keep_34 rfl (lv_at hl 1 rfl) ?_
      have hf7 : f4 (h) = .inr (8, [.ref (h + 1), .ref (h + 2), .int (zI (↑L : Int)), .int (zI (↑cnt : Int)), .int (zI (↑a : Int)), .int (zI nm)]) := (o5 (h) (by omega)).trans ho1
      refine g_get (ci := 8) (v := .ref (h + 2)) (C := RX6) (T := TX6) (N := 6) hx hb hts iU_X6 hown hK hM ⟨by omega, by omega⟩ hf7 rfl 1 (by decide) (hts _ u_254) (fun _ h9 => h9) rfl dX6_keep_35 ?_
      refine lv_iload hx hb dX6_keep_38 (lv_at hl 0 rfl) ?_
      refine g_iconst hx hb dX6_keep_40 ?_
      refine g_iadd hx hb dX6_keep_41 ?_
      refine lv_iload_n hx hb dX6_keep_42 rfl (lv_at hl 3 rfl) ?_
      refine g_iast hx hb hK hM ⟨by omega, by omega⟩ ha6 (by omega) (by omega) (by decide) dX6_keep_43 (fun f8 H locs hM ha10 o9 => ?_)
      refine lv_aload_n hx hb dX6_keep_44 rfl (lv_at hl 1 rfl) ?_
      have hf11 : f8 (h) = .inr (8, [.ref (h + 1), .ref (h + 2), .int (zI (↑L : Int)), .int (zI (↑cnt : Int)), .int (zI (↑a : Int)), .int (zI nm)]) := (o9 (h) (by omega)).trans hf7
      refine g_get (ci := 8) (v := .ref (h + 2)) (C := RX6) (T := TX6) (N := 6) hx hb hts iU_X6 hown hK hM ⟨by omega, by omega⟩ hf11 rfl 1 (by decide) (hts _ u_254) (fun _ h9 => h9) rfl dX6_keep_45 ?_
      refine lv_iload hx hb dX6_keep_48 (lv_at hl 0 rfl) ?_
      refine g_iconst hx hb dX6_keep_50 ?_
      refine g_iadd hx hb dX6_keep_51 ?_
      refine lv_iload_n hx hb dX6_keep_52 rfl (lv_at hl 4 rfl) ?_
      refine g_iast hx hb hK hM ⟨by omega, by omega⟩ ha10 (by omega) (by omega) (by decide) dX6_keep_53 (fun f12 H locs hM ha14 o13 => ?_)
      refine lv_aload_n hx hb dX6_keep_54 rfl (lv_at hl 1 rfl) ?_
      have hf15 : f12 (h) = .inr (8, [.ref (h + 1), .ref (h + 2), .int (zI (↑L : Int)), .int (zI (↑cnt : Int)), .int (zI (↑a : Int)), .int (zI nm)]) := (o13 (h) (by omega)).trans hf11
      refine g_get (ci := 8) (v := .ref (h + 2)) (C := RX6) (T := TX6) (N := 6) hx hb hts iU_X6 hown hK hM ⟨by omega, by omega⟩ hf15 rfl 1 (by decide) (hts _ u_254) (fun _ h9 => h9) rfl dX6_keep_55 ?_
      refine lv_iload hx hb dX6_keep_58 (lv_at hl 0 rfl) ?_
      refine g_iconst hx hb dX6_keep_60 ?_
      refine g_iadd hx hb dX6_keep_61 ?_
      refine lv_iload hx hb dX6_keep_62 (lv_at hl 5 rfl) ?_
      refine g_iast hx hb hK hM ⟨by omega, by omega⟩ ha14 (by omega) (by omega) (by decide) dX6_keep_64 (fun f16 H locs hM ha18 o17 => ?_)
      refine lv_aload_n hx hb dX6_keep_65 rfl (lv_at hl 1 rfl) ?_
      refine lv_dup hx hb dX6_keep_66 rfl ?_
      have hf19 : f16 (h) = .inr (8, [.ref (h + 1), .ref (h + 2), .int (zI (↑L : Int)), .int (zI (↑cnt : Int)), .int (zI (↑a : Int)), .int (zI nm)]) := (o17 (h) (by omega)).trans hf15
      refine g_get (ci := 8) (v := .int (zI (↑cnt : Int))) (C := RX6) (T := TX6) (N := 6) hx hb hts iU_X6 hown hK hM ⟨by omega, by omega⟩ hf19 rfl 3 (by decide) (hts _ u_257) (fun _ h9 => h9) rfl dX6_keep_67 ?_
      refine g_iconst hx hb dX6_keep_70 ?_
      refine g_iadd hx hb dX6_keep_71 ?_
      refine g_put (ci := 8) (v := .int (zI ((↑cnt : Int) + 1))) (ty := .int) (C := RX6) (T := TX6) (N := 6) hx hb hts iU_X6 tyX6 tyX6_ok nmX6 hown hK hM ⟨by omega, by omega⟩ hf19 rfl 3 (by decide) (hts _ u_257) (fun _ h9 => h9) rfl (by decide +kernel) rfl rfl (Nat.le_of_ble_eq_true rfl) dX6_keep_72 (fun f20 H locs hM hf22 o21 => ?_)
      have hf22 : f20 (h) = .inr (8, [.ref (h + 1), .ref (h + 2), .int (zI (↑L : Int)), .int (zI ((↑cnt : Int) + 1)), .int (zI (↑a : Int)), .int (zI nm)]) := hf22
      refine g_iconst hx hb dX6_keep_75 ?_
      have hf23 := ho2.kept ((o21 (h + 1) (by omega)).trans ((o17 (h + 1) (by omega)).trans ((o13 (h + 1) (by omega)).trans ((o9 (h + 1) (by omega)).trans (o5 (h + 1) (by omega))))))
      have hf24 := ha18.kept (o21 (h + 2) (by omega))
      refine g_zret hx hb hr hlk hK hM dX6_keep_76 rfl ?_
      exact ⟨rfl, by rw [Int.natCast_add]; exact ⟨hf22, hf23, hf24⟩, (fun q hq => ((o21 (q) (by omega)).trans ((o17 (q) (by omega)).trans ((o13 (q) (by omega)).trans ((o9 (q) (by omega)).trans (o5 (q) (by omega)))))))⟩
    · skip
      refine g_iconst hx hb dX6_keep_16 ?_
      refine g_zret hx hb hr hlk hK hM dX6_keep_17 rfl ?_
      exfalso; omega
