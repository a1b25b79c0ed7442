def po_X2_has (g : gE) (f : gF) (h : Nat) (P : Nat → Int) (e : Int) : Int32 → gF → Prop := fun r f1 => r = bI (0 ≤ e ∧ e < P 7) ∧ f = f1
set_option maxRecDepth 100000 in
set_option maxHeartbeats 4000000 in
/-- has(e) -/
theorem c_X2_has (l : Launch) (g : gE) (b0 n : Nat) (f : gF) (h : Nat) (P : Nat → Int) (e : Int) (hE : envAt g f h P) (hrg : b0 ≤ h ∧ h + 5 ≤ b0 + n) (hcn : 0 ≤ P 7 ∧ P 7 ≤ 10) (hre : rI e) : cI l yX2_has cX2_has 2 (some .boolean) 0 0 [.ref h, .int (zI e)] g b0 n f (po_X2_has g f h P e) := by
  refine gs_i (cc := cX2_has) (maxL := 2) (ret := (some .boolean)) (by decide) (Nat.le_of_ble_eq_true rfl) ?_
  intro p e0 s m args below meth c ls hx hb hr hml hown hts hlk hK hM hl
  have hl : lv_has ls 2 [(0, .ref h), (1, .int (zI e))] := hl
  obtain ⟨hE0, hE1, hE2, hE3, hE4⟩ := hE
  have hzn := hcn.1
  have hzm := hcn.2
  refine lv_iload_n hx hb dX2_has_0 rfl (lv_at hl 1 rfl) ?_
  refine g_if_lt (tgt := 22) hx hb dX2_has_1 (by decide) hre (fun c1 => ?_) (fun c1 => ?_)
  · skip
    refine g_iconst hx hb dX2_has_22 ?_
    refine g_zret hx hb hr hlk hK hM dX2_has_23 rfl ?_
    refine ⟨?_, rfl⟩
    show zI 0 = _
    first | exact (bI_t (by omega)).symm | exact (bI_f (by omega)).symm
  · skip
    refine lv_iload_n hx hb dX2_has_4 rfl (lv_at hl 1 rfl) ?_
    refine lv_aload_n hx hb dX2_has_5 rfl (lv_at hl 0 rfl) ?_
    refine g_get (ci := 4) (v := .int (zI (P 7))) (C := RX2) (T := TX2) (N := 5) hx hb hts iU_X2 hown hK hM ⟨by omega, by omega⟩ hE0 rfl 4 (by decide) (hts _ u_60) (fun _ h9 => h9) rfl dX2_has_6 ?_
    refine g_icmp_ge (tgt := 22) hx hb dX2_has_9 (by decide) hre ⟨by omega, by omega⟩ (fun c9 => ?_) (fun c9 => ?_)
    · skip
      refine g_iconst hx hb dX2_has_22 ?_
      refine g_zret hx hb hr hlk hK hM dX2_has_23 rfl ?_
      refine ⟨?_, rfl⟩
      show zI 0 = _
      first | exact (bI_t (by omega)).symm | exact (bI_f (by omega)).symm
    · skip
      refine lv_iload_n hx hb dX2_has_12 rfl (lv_at hl 1 rfl) ?_
      refine g_bipush hx hb dX2_has_13 (by decide) ?_
      refine g_icmp_ge (tgt := 22) hx hb dX2_has_15 (by decide) hre (by decide) (fun c15 => ?_) (fun c15 => ?_)
      · skip
        refine g_iconst hx hb dX2_has_22 ?_
        refine g_zret hx hb hr hlk hK hM dX2_has_23 rfl ?_
        refine ⟨?_, rfl⟩
        show zI 0 = _
        first | exact (bI_t (by omega)).symm | exact (bI_f (by omega)).symm
      · skip
        refine g_iconst hx hb dX2_has_18 ?_
        refine lv_goto (tgt := 23) hx hb dX2_has_19 (by decide) ?_
        refine g_zret hx hb hr hlk hK hM dX2_has_23 rfl ?_
        refine ⟨?_, rfl⟩
        show zI 1 = _
        first | exact (bI_t (by omega)).symm | exact (bI_f (by omega)).symm

def po_X2_balanceOf (g : gE) (f : gF) (h : Nat) (P : Nat → Int) (e : Nat) : Int64 → gF → Prop := fun r f1 => r = zL (P (11 + 4 * e)) ∧ f = f1
set_option maxRecDepth 100000 in
set_option maxHeartbeats 4000000 in
/-- balanceOf(e), a valid e -/
theorem c_X2_balanceOf (l : Launch) (g : gE) (b0 n : Nat) (f : gF) (h : Nat) (P : Nat → Int) (e : Nat) (hE : envAt g f h P) (hrg : b0 ≤ h ∧ h + 5 ≤ b0 + n) (hcn : 0 ≤ P 7 ∧ P 7 ≤ 10) (he : (e : Int) < P 7) : cL l yX2_balanceOf cX2_balanceOf 2 (some .long) 0 0 [.ref h, .int (zI (↑e : Int))] g b0 n f (po_X2_balanceOf g f h P e) := by
  refine gs_l (cc := cX2_balanceOf) (maxL := 2) (ret := (some .long)) (by decide) (Nat.le_of_ble_eq_true rfl) ?_
  intro p e0 s m args below meth c ls hx hb hr hml hown hts hlk hK hM hl
  have hl : lv_has ls 2 [(0, .ref h), (1, .int (zI (↑e : Int)))] := hl
  obtain ⟨hE0, hE1, hE2, hE3, hE4⟩ := hE
  have hzn := hcn.1
  have hzm := hcn.2
  have hen : e < 10 := by omega
  refine lv_iload_n hx hb dX2_balanceOf_0 rfl (lv_at hl 1 rfl) ?_
  refine g_if_lt (tgt := 27) hx hb dX2_balanceOf_1 (by decide) ⟨by omega, by omega⟩ (fun c1 => ?_) (fun c1 => ?_)
  · skip
    refine g_lconst (z := 0) hx hb dX2_balanceOf_27 (by decide) ?_
    refine g_lret hx hb hr hlk hK hM dX2_balanceOf_28 ?_
    first | exact ⟨rfl, rfl⟩ | (exfalso; omega)
  · skip
    refine lv_iload_n hx hb dX2_balanceOf_4 rfl (lv_at hl 1 rfl) ?_
    refine lv_aload_n hx hb dX2_balanceOf_5 rfl (lv_at hl 0 rfl) ?_
    refine g_get (ci := 4) (v := .int (zI (P 7))) (C := RX2) (T := TX2) (N := 5) hx hb hts iU_X2 hown hK hM ⟨by omega, by omega⟩ hE0 rfl 4 (by decide) (hts _ u_60) (fun _ h9 => h9) rfl dX2_balanceOf_6 ?_
    refine g_icmp_ge (tgt := 27) hx hb dX2_balanceOf_9 (by decide) ⟨by omega, by omega⟩ ⟨by omega, by omega⟩ (fun c9 => ?_) (fun c9 => ?_)
    · skip
      refine g_lconst (z := 0) hx hb dX2_balanceOf_27 (by decide) ?_
      refine g_lret hx hb hr hlk hK hM dX2_balanceOf_28 ?_
      first | exact ⟨rfl, rfl⟩ | (exfalso; omega)
    · skip
      refine lv_iload_n hx hb dX2_balanceOf_12 rfl (lv_at hl 1 rfl) ?_
      refine g_bipush hx hb dX2_balanceOf_13 (by decide) ?_
      refine g_icmp_ge (tgt := 27) hx hb dX2_balanceOf_15 (by decide) ⟨by omega, by omega⟩ (by decide) (fun c15 => ?_) (fun c15 => ?_)
      · skip
        refine g_lconst (z := 0) hx hb dX2_balanceOf_27 (by decide) ?_
        refine g_lret hx hb hr hlk hK hM dX2_balanceOf_28 ?_
        first | exact ⟨rfl, rfl⟩ | (exfalso; omega)
      · skip
        refine lv_aload_n hx hb dX2_balanceOf_18 rfl (lv_at hl 0 rfl) ?_
        refine g_get (ci := 4) (v := .ref (h + 1)) (C := RX2) (T := TX2) (N := 5) hx hb hts iU_X2 hown hK hM ⟨by omega, by omega⟩ hE0 rfl 0 (by decide) (hts _ u_56) (fun _ h9 => h9) rfl dX2_balanceOf_19 ?_
        refine lv_iload_n hx hb dX2_balanceOf_22 rfl (lv_at hl 1 rfl) ?_
        refine g_lald hx hb hK hM ⟨by omega, by omega⟩ hE1 (by omega) (by omega) (by decide) dX2_balanceOf_23 ?_
        show W _ _ _ _ _ _ _ _ _ _ _ _ _ _ _ (F0 _ _ _ (.long (zL (P (11 + 4 * e))) :: _))
        refine lv_goto (tgt := 28) hx hb dX2_balanceOf_24 (by decide) ?_
        refine g_lret hx hb hr hlk hK hM dX2_balanceOf_28 ?_
        first | exact ⟨rfl, rfl⟩ | (exfalso; omega)

def po_X2_isCapped (g : gE) (f : gF) (h : Nat) (P : Nat → Int) (e : Nat) : Int32 → gF → Prop := fun r f1 => r = bI (0 ≤ P (12 + 4 * e)) ∧ f = f1
set_option maxRecDepth 100000 in
set_option maxHeartbeats 4000000 in
/-- isCapped(e), a valid e -/
theorem c_X2_isCapped (l : Launch) (g : gE) (b0 n : Nat) (f : gF) (h : Nat) (P : Nat → Int) (e : Nat) (hE : envAt g f h P) (hrg : b0 ≤ h ∧ h + 5 ≤ b0 + n) (hcn : 0 ≤ P 7 ∧ P 7 ≤ 10) (he : (e : Int) < P 7) (hcp : -1 ≤ P (12 + 4 * e) ∧ P (12 + 4 * e) ≤ 9000000) : cI l yX2_isCapped cX2_isCapped 2 (some .boolean) 0 0 [.ref h, .int (zI (↑e : Int))] g b0 n f (po_X2_isCapped g f h P e) := by
  refine gs_i (cc := cX2_isCapped) (maxL := 2) (ret := (some .boolean)) (by decide) (Nat.le_of_ble_eq_true rfl) ?_
  intro p e0 s m args below meth c ls hx hb hr hml hown hts hlk hK hM hl
  have hl : lv_has ls 2 [(0, .ref h), (1, .int (zI (↑e : Int)))] := hl
  obtain ⟨hE0, hE1, hE2, hE3, hE4⟩ := hE
  have hzn := hcn.1
  have hzm := hcn.2
  have hen : e < 10 := by omega
  refine lv_iload_n hx hb dX2_isCapped_0 rfl (lv_at hl 1 rfl) ?_
  refine g_if_lt (tgt := 32) hx hb dX2_isCapped_1 (by decide) ⟨by omega, by omega⟩ (fun c1 => ?_) (fun c1 => ?_)
  · skip
    refine g_iconst hx hb dX2_isCapped_32 ?_
    refine g_zret hx hb hr hlk hK hM dX2_isCapped_33 rfl ?_
    refine ⟨?_, rfl⟩
    show zI 0 = _
    first | exact (bI_t (by omega)).symm | exact (bI_f (by omega)).symm
  · skip
    refine lv_iload_n hx hb dX2_isCapped_4 rfl (lv_at hl 1 rfl) ?_
    refine lv_aload_n hx hb dX2_isCapped_5 rfl (lv_at hl 0 rfl) ?_
    refine g_get (ci := 4) (v := .int (zI (P 7))) (C := RX2) (T := TX2) (N := 5) hx hb hts iU_X2 hown hK hM ⟨by omega, by omega⟩ hE0 rfl 4 (by decide) (hts _ u_60) (fun _ h9 => h9) rfl dX2_isCapped_6 ?_
    refine g_icmp_ge (tgt := 32) hx hb dX2_isCapped_9 (by decide) ⟨by omega, by omega⟩ ⟨by omega, by omega⟩ (fun c9 => ?_) (fun c9 => ?_)
    · skip
      refine g_iconst hx hb dX2_isCapped_32 ?_
      refine g_zret hx hb hr hlk hK hM dX2_isCapped_33 rfl ?_
      refine ⟨?_, rfl⟩
      show zI 0 = _
      first | exact (bI_t (by omega)).symm | exact (bI_f (by omega)).symm
    · skip
      refine lv_iload_n hx hb dX2_isCapped_12 rfl (lv_at hl 1 rfl) ?_
      refine g_bipush hx hb dX2_isCapped_13 (by decide) ?_
      refine g_icmp_ge (tgt := 32) hx hb dX2_isCapped_15 (by decide) ⟨by omega, by omega⟩ (by decide) (fun c15 => ?_) (fun c15 => ?_)
      · skip
        refine g_iconst hx hb dX2_isCapped_32 ?_
        refine g_zret hx hb hr hlk hK hM dX2_isCapped_33 rfl ?_
        refine ⟨?_, rfl⟩
        show zI 0 = _
        first | exact (bI_t (by omega)).symm | exact (bI_f (by omega)).symm
      · skip
        refine lv_aload_n hx hb dX2_isCapped_18 rfl (lv_at hl 0 rfl) ?_
        refine g_get (ci := 4) (v := .ref (h + 2)) (C := RX2) (T := TX2) (N := 5) hx hb hts iU_X2 hown hK hM ⟨by omega, by omega⟩ hE0 rfl 1 (by decide) (hts _ u_57) (fun _ h9 => h9) rfl dX2_isCapped_19 ?_
        refine lv_iload_n hx hb dX2_isCapped_22 rfl (lv_at hl 1 rfl) ?_
        refine g_iald hx hb hK hM ⟨by omega, by omega⟩ hE2 (by omega) (by omega) (by decide) dX2_isCapped_23 ?_
        show W _ _ _ _ _ _ _ _ _ _ _ _ _ _ _ (F0 _ _ _ (.int (zI (P (12 + 4 * e))) :: _))
        refine g_iconst hx hb dX2_isCapped_24 ?_
        refine g_icmp_eq (tgt := 32) hx hb dX2_isCapped_25 (by decide) ⟨by omega, by omega⟩ (by decide) (fun c25 => ?_) (fun c25 => ?_)
        · skip
          refine g_iconst hx hb dX2_isCapped_32 ?_
          refine g_zret hx hb hr hlk hK hM dX2_isCapped_33 rfl ?_
          refine ⟨?_, rfl⟩
          show zI 0 = _
          first | exact (bI_t (by omega)).symm | exact (bI_f (by omega)).symm
        · skip
          refine g_iconst hx hb dX2_isCapped_28 ?_
          refine lv_goto (tgt := 33) hx hb dX2_isCapped_29 (by decide) ?_
          refine g_zret hx hb hr hlk hK hM dX2_isCapped_33 rfl ?_
          refine ⟨?_, rfl⟩
          show zI 1 = _
          first | exact (bI_t (by omega)).symm | exact (bI_f (by omega)).symm

def po_X2_take (g : gE) (f : gF) (h : Nat) (P : Nat → Int) (e : Nat) (a : Int) : gF → Prop := fun f1 => envAt g f1 h (pu P (11 + 4 * e) (P (11 + 4 * e) - a)) ∧ ∀ q, (q < h ∨ h + 5 ≤ q) → f1 q = f q
set_option maxRecDepth 100000 in
set_option maxHeartbeats 4000000 in
/-- take(e, a), a valid e -/
theorem c_X2_take (l : Launch) (g : gE) (b0 n : Nat) (f : gF) (h : Nat) (P : Nat → Int) (e : Nat) (a : Int) (hE : envAt g f h P) (hrg : b0 ≤ h ∧ h + 5 ≤ b0 + n) (hcn : 0 ≤ P 7 ∧ P 7 ≤ 10) (he : (e : Int) < P 7) : cV l yX2_take cX2_take 4 none 0 0 [.ref h, .int (zI (↑e : Int)), .long (zL a)] g b0 n f (po_X2_take g f h P e a) := by
  refine gs_v (cc := cX2_take) (maxL := 4) (ret := none) (by decide) (Nat.le_of_ble_eq_true rfl) ?_
  intro p e0 s m args below meth c ls hx hb hr hml hown hts hlk hK hM hl
  have hl : lv_has ls 4 [(0, .ref h), (1, .int (zI (↑e : Int))), (2, .long (zL a))] := hl
  obtain ⟨hE0, hE1, hE2, hE3, hE4⟩ := hE
  have hzn := hcn.1
  have hzm := hcn.2
  have hen : e < 10 := by omega
  refine lv_iload_n hx hb dX2_take_0 rfl (lv_at hl 1 rfl) ?_
  refine g_if_lt (tgt := 28) hx hb dX2_take_1 (by decide) ⟨by omega, by omega⟩ (fun c1 => ?_) (fun c1 => ?_)
  · skip
    refine g_vret hx hb hr hlk hK hM dX2_take_28 ?_
    exfalso; omega
  · skip
    refine lv_iload_n hx hb dX2_take_4 rfl (lv_at hl 1 rfl) ?_
    refine lv_aload_n hx hb dX2_take_5 rfl (lv_at hl 0 rfl) ?_
    refine g_get (ci := 4) (v := .int (zI (P 7))) (C := RX2) (T := TX2) (N := 5) hx hb hts iU_X2 hown hK hM ⟨by omega, by omega⟩ hE0 rfl 4 (by decide) (hts _ u_60) (fun _ h9 => h9) rfl dX2_take_6 ?_
    refine g_icmp_ge (tgt := 28) hx hb dX2_take_9 (by decide) ⟨by omega, by omega⟩ ⟨by omega, by omega⟩ (fun c9 => ?_) (fun c9 => ?_)
    · skip
      refine g_vret hx hb hr hlk hK hM dX2_take_28 ?_
      exfalso; omega
    · skip
      refine lv_iload_n hx hb dX2_take_12 rfl (lv_at hl 1 rfl) ?_
      refine g_bipush hx hb dX2_take_13 (by decide) ?_
      refine g_icmp_ge (tgt := 28) hx hb dX2_take_15 (by decide) ⟨by omega, by omega⟩ (by decide) (fun c15 => ?_) (fun c15 => ?_)
      · skip
        refine g_vret hx hb hr hlk hK hM dX2_take_28 ?_
        exfalso; omega
      · skip
        refine lv_aload_n hx hb dX2_take_18 rfl (lv_at hl 0 rfl) ?_
        refine g_get (ci := 4) (v := .ref (h + 1)) (C := RX2) (T := TX2) (N := 5) hx hb hts iU_X2 hown hK hM ⟨by omega, by omega⟩ hE0 rfl 0 (by decide) (hts _ u_56) (fun _ h9 => h9) rfl dX2_take_19 ?_
        refine lv_iload_n hx hb dX2_take_22 rfl (lv_at hl 1 rfl) ?_
        refine lv_dup2_11 hx hb dX2_take_23 rfl rfl ?_
        refine g_lald hx hb hK hM ⟨by omega, by omega⟩ hE1 (by omega) (by omega) (by decide) dX2_take_24 ?_
        show W _ _ _ _ _ _ _ _ _ _ _ _ _ _ _ (F0 _ _ _ (.long (zL (P (11 + 4 * e))) :: _))
        refine lv_lload_n hx hb dX2_take_25 rfl (lv_at hl 2 rfl) ?_
        refine g_lsub hx hb dX2_take_26 ?_
        refine g_last hx hb hK hM ⟨by omega, by omega⟩ hE1 (by omega) (by omega) (by decide) dX2_take_27 (fun f1 H locs hM ha3 o2 => ?_)
        have hf4 : f1 (h) = .inr (4, [.ref (h + 1), .ref (h + 2), .ref (h + 3), .ref (h + 4), .int (zI (P 7))]) := (o2 (h) (by omega)).trans hE0
        have hf5 := hE2.kept (o2 (h + 2) (by omega))
        have hf6 := hE3.kept (o2 (h + 3) (by omega))
        have hf7 := hE4.kept (o2 (h + 4) (by omega))
        refine g_vret hx hb hr hlk hK hM dX2_take_28 ?_
        exact ⟨⟨hf4.trans (by simp only [pu, ↓reduceIte] <;> (repeat' split) <;> first | rfl | omega | (congr 1; omega) | (congr 2; omega)), ha3.cong (fun k hk => by simp only [pu, ↓reduceIte] <;> (repeat' split) <;> first | rfl | omega | (congr 1; omega) | (congr 2; omega)), hf5.cong (fun k hk => by simp only [pu, ↓reduceIte] <;> (repeat' split) <;> first | rfl | omega | (congr 1; omega) | (congr 2; omega)), hf6.cong (fun k hk => by simp only [pu, ↓reduceIte] <;> (repeat' split) <;> first | rfl | omega | (congr 1; omega) | (congr 2; omega)), hf7.cong (fun k hk => by simp only [pu, ↓reduceIte] <;> (repeat' split) <;> first | rfl | omega | (congr 1; omega) | (congr 2; omega))⟩, (fun q hq => (o2 (q) (by omega)))⟩

def po_X2_putWhatFits (g : gE) (f : gF) (h : Nat) (P : Nat → Int) (e : Nat) (a : Int) : Int64 → gF → Prop := fun r f1 => r = zL (sIs P e a) ∧ envAt g f1 h (sPut P e a) ∧ ∀ q, (q < h ∨ h + 5 ≤ q) → f1 q = f q
set_option maxRecDepth 100000 in
set_option maxHeartbeats 4000000 in
/-- put(e, a), a valid e -/
theorem c_X2_putWhatFits (l : Launch) (g : gE) (b0 n : Nat) (f : gF) (h : Nat) (P : Nat → Int) (e : Nat) (a : Int) (hE : envAt g f h P) (hrg : b0 ≤ h ∧ h + 5 ≤ b0 + n) (hcn : 0 ≤ P 7 ∧ P 7 ≤ 10) (he : (e : Int) < P 7) (hbr : 0 ≤ P (11 + 4 * e) ∧ P (11 + 4 * e) ≤ 1000000000000000000) (har : 0 ≤ a ∧ a ≤ 1000000000000000000) (hcp : -1 ≤ P (12 + 4 * e) ∧ P (12 + 4 * e) ≤ 9000000) : cL l yX2_putWhatFits cX2_putWhatFits 6 (some .long) 0 0 [.ref h, .int (zI (↑e : Int)), .long (zL a)] g b0 n f (po_X2_putWhatFits g f h P e a) := by
  refine gs_l (cc := cX2_putWhatFits) (maxL := 6) (ret := (some .long)) (by decide) (Nat.le_of_ble_eq_true rfl) ?_
  intro p e0 s m args below meth c ls hx hb hr hml hown hts hlk hK hM hl
  have hl : lv_has ls 6 [(0, .ref h), (1, .int (zI (↑e : Int))), (2, .long (zL a))] := hl
  obtain ⟨hE0, hE1, hE2, hE3, hE4⟩ := hE
  have hzn := hcn.1
  have hzm := hcn.2
  have hen : e < 10 := by omega
  have hbr1 := hbr.1
  have hbr2 := hbr.2
  have har1 := har.1
  have har2 := har.2
  have hcp1 := hcp.1
  have hcp2 := hcp.2
  refine lv_iload_n hx hb dX2_putWhatFits_0 rfl (lv_at hl 1 rfl) ?_
  refine g_if_lt (tgt := 18) hx hb dX2_putWhatFits_1 (by decide) ⟨by omega, by omega⟩ (fun c1 => ?_) (fun c1 => ?_)
  · skip
    refine g_lconst (z := 0) hx hb dX2_putWhatFits_18 (by decide) ?_
    refine g_lret hx hb hr hlk hK hM dX2_putWhatFits_19 ?_
    exfalso; omega
  · skip
    refine lv_iload_n hx hb dX2_putWhatFits_4 rfl (lv_at hl 1 rfl) ?_
    refine lv_aload_n hx hb dX2_putWhatFits_5 rfl (lv_at hl 0 rfl) ?_
    refine g_get (ci := 4) (v := .int (zI (P 7))) (C := RX2) (T := TX2) (N := 5) hx hb hts iU_X2 hown hK hM ⟨by omega, by omega⟩ hE0 rfl 4 (by decide) (hts _ u_60) (fun _ h9 => h9) rfl dX2_putWhatFits_6 ?_
    refine g_icmp_ge (tgt := 18) hx hb dX2_putWhatFits_9 (by decide) ⟨by omega, by omega⟩ ⟨by omega, by omega⟩ (fun c9 => ?_) (fun c9 => ?_)
    · skip
      refine g_lconst (z := 0) hx hb dX2_putWhatFits_18 (by decide) ?_
      refine g_lret hx hb hr hlk hK hM dX2_putWhatFits_19 ?_
      exfalso; omega
    · skip
      refine lv_iload_n hx hb dX2_putWhatFits_12 rfl (lv_at hl 1 rfl) ?_
      refine g_bipush hx hb dX2_putWhatFits_13 (by decide) ?_
      refine g_icmp_lt (tgt := 20) hx hb dX2_putWhatFits_15 (by decide) ⟨by omega, by omega⟩ (by decide) (fun c15 => ?_) (fun c15 => ?_)
      · skip
        refine lv_lload_n hx hb dX2_putWhatFits_20 rfl (lv_at hl 2 rfl) ?_
        refine lv_lstore (lv' := [(4, .long (zL a)), (0, .ref h), (1, .int (zI (↑e : Int))), (2, .long (zL a))]) hx hb dX2_putWhatFits_21 hl (by decide) rfl (fun ls hl => ?_)
        refine lv_aload_n hx hb dX2_putWhatFits_23 rfl (lv_at hl 1 rfl) ?_
        refine g_get (ci := 4) (v := .ref (h + 2)) (C := RX2) (T := TX2) (N := 5) hx hb hts iU_X2 hown hK hM ⟨by omega, by omega⟩ hE0 rfl 1 (by decide) (hts _ u_57) (fun _ h9 => h9) rfl dX2_putWhatFits_24 ?_
        refine lv_iload_n hx hb dX2_putWhatFits_27 rfl (lv_at hl 2 rfl) ?_
        refine g_iald hx hb hK hM ⟨by omega, by omega⟩ hE2 (by omega) (by omega) (by decide) dX2_putWhatFits_28 ?_
        show W _ _ _ _ _ _ _ _ _ _ _ _ _ _ _ (F0 _ _ _ (.int (zI (P (12 + 4 * e))) :: _))
        refine g_iconst hx hb dX2_putWhatFits_29 ?_
        refine g_icmp_eq (tgt := 89) hx hb dX2_putWhatFits_30 (by decide) ⟨by omega, by omega⟩ (by decide) (fun c30 => ?_) (fun c30 => ?_)
        · skip
          refine lv_aload_n hx hb dX2_putWhatFits_89 rfl (lv_at hl 1 rfl) ?_
          refine g_get (ci := 4) (v := .ref (h + 1)) (C := RX2) (T := TX2) (N := 5) hx hb hts iU_X2 hown hK hM ⟨by omega, by omega⟩ hE0 rfl 0 (by decide) (hts _ u_56) (fun _ h9 => h9) rfl dX2_putWhatFits_90 ?_
          refine lv_iload_n hx hb dX2_putWhatFits_93 rfl (lv_at hl 2 rfl) ?_
          refine lv_dup2_11 hx hb dX2_putWhatFits_94 rfl rfl ?_
          refine g_lald hx hb hK hM ⟨by omega, by omega⟩ hE1 (by omega) (by omega) (by decide) dX2_putWhatFits_95 ?_
          show W _ _ _ _ _ _ _ _ _ _ _ _ _ _ _ (F0 _ _ _ (.long (zL (P (11 + 4 * e))) :: _))
          refine lv_lload hx hb dX2_putWhatFits_96 (lv_at hl 0 rfl) ?_
          refine g_ladd hx hb dX2_putWhatFits_98 ?_
          refine g_last hx hb hK hM ⟨by omega, by omega⟩ hE1 (by omega) (by omega) (by decide) dX2_putWhatFits_99 (fun f1 H locs hM ha3 o2 => ?_)
          refine lv_lload hx hb dX2_putWhatFits_100 (lv_at hl 0 rfl) ?_
          have hf4 : f1 (h) = .inr (4, [.ref (h + 1), .ref (h + 2), .ref (h + 3), .ref (h + 4), .int (zI (P 7))]) := (o2 (h) (by omega)).trans hE0
          have hf5 := hE2.kept (o2 (h + 2) (by omega))
          have hf6 := hE3.kept (o2 (h + 3) (by omega))
          have hf7 := hE4.kept (o2 (h + 4) (by omega))
          refine g_lret hx hb hr hlk hK hM dX2_putWhatFits_102 ?_
          have hv : a = sIs P e a := by unfold sIs; split <;> omega
          exact ⟨by rw [← hv], ⟨hf4.trans (by simp only [sPut, ← hv, pu, ↓reduceIte] <;> (repeat' split) <;> first | rfl | omega | (congr 1; omega) | (congr 2; omega)), ha3.cong (fun k hk => by simp only [sPut, ← hv, pu, ↓reduceIte] <;> (repeat' split) <;> first | rfl | omega | (congr 1; omega) | (congr 2; omega)), hf5.cong (fun k hk => by simp only [sPut, ← hv, pu, ↓reduceIte] <;> (repeat' split) <;> first | rfl | omega | (congr 1; omega) | (congr 2; omega)), hf6.cong (fun k hk => by simp only [sPut, ← hv, pu, ↓reduceIte] <;> (repeat' split) <;> first | rfl | omega | (congr 1; omega) | (congr 2; omega)), hf7.cong (fun k hk => by simp only [sPut, ← hv, pu, ↓reduceIte] <;> (repeat' split) <;> first | rfl | omega | (congr 1; omega) | (congr 2; omega))⟩, (fun q hq => (o2 (q) (by omega)))⟩
        · skip
          refine lv_aload_n hx hb dX2_putWhatFits_33 rfl (lv_at hl 1 rfl) ?_
          refine g_get (ci := 4) (v := .ref (h + 2)) (C := RX2) (T := TX2) (N := 5) hx hb hts iU_X2 hown hK hM ⟨by omega, by omega⟩ hE0 rfl 1 (by decide) (hts _ u_57) (fun _ h9 => h9) rfl dX2_putWhatFits_34 ?_
          refine lv_iload_n hx hb dX2_putWhatFits_37 rfl (lv_at hl 2 rfl) ?_
          refine g_iald hx hb hK hM ⟨by omega, by omega⟩ hE2 (by omega) (by omega) (by decide) dX2_putWhatFits_38 ?_
          show W _ _ _ _ _ _ _ _ _ _ _ _ _ _ _ (F0 _ _ _ (.int (zI (P (12 + 4 * e))) :: _))
          refine g_i2l hx hb dX2_putWhatFits_39 ⟨by omega, by omega⟩ ?_
          refine lv_aload_n hx hb dX2_putWhatFits_40 rfl (lv_at hl 1 rfl) ?_
          refine g_get (ci := 4) (v := .ref (h + 1)) (C := RX2) (T := TX2) (N := 5) hx hb hts iU_X2 hown hK hM ⟨by omega, by omega⟩ hE0 rfl 0 (by decide) (hts _ u_56) (fun _ h9 => h9) rfl dX2_putWhatFits_41 ?_
          refine lv_iload_n hx hb dX2_putWhatFits_44 rfl (lv_at hl 2 rfl) ?_
          refine g_lald hx hb hK hM ⟨by omega, by omega⟩ hE1 (by omega) (by omega) (by decide) dX2_putWhatFits_45 ?_
          show W _ _ _ _ _ _ _ _ _ _ _ _ _ _ _ (F0 _ _ _ (.long (zL (P (11 + 4 * e))) :: _))
          refine g_lsub hx hb dX2_putWhatFits_46 ?_
          refine lv_lload_n hx hb dX2_putWhatFits_47 rfl (lv_at hl 3 rfl) ?_
          refine g_lcmp_ge (tgt := 89) hx hb dX2_putWhatFits_48 dX2_putWhatFits_49 (by decide) ⟨by omega, by omega⟩ ⟨by omega, by omega⟩ (fun c48 => ?_) (fun c48 => ?_)
          · skip
            refine lv_aload_n hx hb dX2_putWhatFits_89 rfl (lv_at hl 1 rfl) ?_
            refine g_get (ci := 4) (v := .ref (h + 1)) (C := RX2) (T := TX2) (N := 5) hx hb hts iU_X2 hown hK hM ⟨by omega, by omega⟩ hE0 rfl 0 (by decide) (hts _ u_56) (fun _ h9 => h9) rfl dX2_putWhatFits_90 ?_
            refine lv_iload_n hx hb dX2_putWhatFits_93 rfl (lv_at hl 2 rfl) ?_
            refine lv_dup2_11 hx hb dX2_putWhatFits_94 rfl rfl ?_
            refine g_lald hx hb hK hM ⟨by omega, by omega⟩ hE1 (by omega) (by omega) (by decide) dX2_putWhatFits_95 ?_
            show W _ _ _ _ _ _ _ _ _ _ _ _ _ _ _ (F0 _ _ _ (.long (zL (P (11 + 4 * e))) :: _))
            refine lv_lload hx hb dX2_putWhatFits_96 (lv_at hl 0 rfl) ?_
            refine g_ladd hx hb dX2_putWhatFits_98 ?_
            refine g_last hx hb hK hM ⟨by omega, by omega⟩ hE1 (by omega) (by omega) (by decide) dX2_putWhatFits_99 (fun f8 H locs hM ha10 o9 => ?_)
            refine lv_lload hx hb dX2_putWhatFits_100 (lv_at hl 0 rfl) ?_
            have hf11 : f8 (h) = .inr (4, [.ref (h + 1), .ref (h + 2), .ref (h + 3), .ref (h + 4), .int (zI (P 7))]) := (o9 (h) (by omega)).trans hE0
            have hf12 := hE2.kept (o9 (h + 2) (by omega))
            have hf13 := hE3.kept (o9 (h + 3) (by omega))
            have hf14 := hE4.kept (o9 (h + 4) (by omega))
            refine g_lret hx hb hr hlk hK hM dX2_putWhatFits_102 ?_
            have hv : a = sIs P e a := by unfold sIs; split <;> omega
            exact ⟨by rw [← hv], ⟨hf11.trans (by simp only [sPut, ← hv, pu, ↓reduceIte] <;> (repeat' split) <;> first | rfl | omega | (congr 1; omega) | (congr 2; omega)), ha10.cong (fun k hk => by simp only [sPut, ← hv, pu, ↓reduceIte] <;> (repeat' split) <;> first | rfl | omega | (congr 1; omega) | (congr 2; omega)), hf12.cong (fun k hk => by simp only [sPut, ← hv, pu, ↓reduceIte] <;> (repeat' split) <;> first | rfl | omega | (congr 1; omega) | (congr 2; omega)), hf13.cong (fun k hk => by simp only [sPut, ← hv, pu, ↓reduceIte] <;> (repeat' split) <;> first | rfl | omega | (congr 1; omega) | (congr 2; omega)), hf14.cong (fun k hk => by simp only [sPut, ← hv, pu, ↓reduceIte] <;> (repeat' split) <;> first | rfl | omega | (congr 1; omega) | (congr 2; omega))⟩, (fun q hq => (o9 (q) (by omega)))⟩
          · skip
            refine lv_aload_n hx hb dX2_putWhatFits_52 rfl (lv_at hl 1 rfl) ?_
            refine g_get (ci := 4) (v := .ref (h + 2)) (C := RX2) (T := TX2) (N := 5) hx hb hts iU_X2 hown hK hM ⟨by omega, by omega⟩ hE0 rfl 1 (by decide) (hts _ u_57) (fun _ h9 => h9) rfl dX2_putWhatFits_53 ?_
            refine lv_iload_n hx hb dX2_putWhatFits_56 rfl (lv_at hl 2 rfl) ?_
            refine g_iald hx hb hK hM ⟨by omega, by omega⟩ hE2 (by omega) (by omega) (by decide) dX2_putWhatFits_57 ?_
            show W _ _ _ _ _ _ _ _ _ _ _ _ _ _ _ (F0 _ _ _ (.int (zI (P (12 + 4 * e))) :: _))
            refine g_i2l hx hb dX2_putWhatFits_58 ⟨by omega, by omega⟩ ?_
            refine lv_aload_n hx hb dX2_putWhatFits_59 rfl (lv_at hl 1 rfl) ?_
            refine g_get (ci := 4) (v := .ref (h + 1)) (C := RX2) (T := TX2) (N := 5) hx hb hts iU_X2 hown hK hM ⟨by omega, by omega⟩ hE0 rfl 0 (by decide) (hts _ u_56) (fun _ h9 => h9) rfl dX2_putWhatFits_60 ?_
            refine lv_iload_n hx hb dX2_putWhatFits_63 rfl (lv_at hl 2 rfl) ?_
            refine g_lald hx hb hK hM ⟨by omega, by omega⟩ hE1 (by omega) (by omega) (by decide) dX2_putWhatFits_64 ?_
            show W _ _ _ _ _ _ _ _ _ _ _ _ _ _ _ (F0 _ _ _ (.long (zL (P (11 + 4 * e))) :: _))
            refine g_lcmp_le (tgt := 86) hx hb dX2_putWhatFits_65 dX2_putWhatFits_66 (by decide) ⟨by omega, by omega⟩ ⟨by omega, by omega⟩ (fun c65 => ?_) (fun c65 => ?_)
            · skip
              refine g_lconst (z := 0) hx hb dX2_putWhatFits_86 (by decide) ?_
              refine lv_lstore (lv' := [(4, .long (zL 0)), (0, .ref h), (1, .int (zI (↑e : Int))), (2, .long (zL a))]) hx hb dX2_putWhatFits_87 hl (by decide) rfl (fun ls hl => ?_)
              refine lv_aload_n hx hb dX2_putWhatFits_89 rfl (lv_at hl 1 rfl) ?_
              refine g_get (ci := 4) (v := .ref (h + 1)) (C := RX2) (T := TX2) (N := 5) hx hb hts iU_X2 hown hK hM ⟨by omega, by omega⟩ hE0 rfl 0 (by decide) (hts _ u_56) (fun _ h9 => h9) rfl dX2_putWhatFits_90 ?_
              refine lv_iload_n hx hb dX2_putWhatFits_93 rfl (lv_at hl 2 rfl) ?_
              refine lv_dup2_11 hx hb dX2_putWhatFits_94 rfl rfl ?_
              refine g_lald hx hb hK hM ⟨by omega, by omega⟩ hE1 (by omega) (by omega) (by decide) dX2_putWhatFits_95 ?_
              show W _ _ _ _ _ _ _ _ _ _ _ _ _ _ _ (F0 _ _ _ (.long (zL (P (11 + 4 * e))) :: _))
              refine lv_lload hx hb dX2_putWhatFits_96 (lv_at hl 0 rfl) ?_
              refine g_ladd hx hb dX2_putWhatFits_98 ?_
              refine g_last hx hb hK hM ⟨by omega, by omega⟩ hE1 (by omega) (by omega) (by decide) dX2_putWhatFits_99 (fun f15 H locs hM ha17 o16 => ?_)
              refine lv_lload hx hb dX2_putWhatFits_100 (lv_at hl 0 rfl) ?_
              have hf18 : f15 (h) = .inr (4, [.ref (h + 1), .ref (h + 2), .ref (h + 3), .ref (h + 4), .int (zI (P 7))]) := (o16 (h) (by omega)).trans hE0
              have hf19 := hE2.kept (o16 (h + 2) (by omega))
              have hf20 := hE3.kept (o16 (h + 3) (by omega))
              have hf21 := hE4.kept (o16 (h + 4) (by omega))
              refine g_lret hx hb hr hlk hK hM dX2_putWhatFits_102 ?_
              have hv : 0 = sIs P e a := by unfold sIs; split <;> omega
              exact ⟨by rw [← hv], ⟨hf18.trans (by simp only [sPut, ← hv, pu, ↓reduceIte] <;> (repeat' split) <;> first | rfl | omega | (congr 1; omega) | (congr 2; omega)), ha17.cong (fun k hk => by simp only [sPut, ← hv, pu, ↓reduceIte] <;> (repeat' split) <;> first | rfl | omega | (congr 1; omega) | (congr 2; omega)), hf19.cong (fun k hk => by simp only [sPut, ← hv, pu, ↓reduceIte] <;> (repeat' split) <;> first | rfl | omega | (congr 1; omega) | (congr 2; omega)), hf20.cong (fun k hk => by simp only [sPut, ← hv, pu, ↓reduceIte] <;> (repeat' split) <;> first | rfl | omega | (congr 1; omega) | (congr 2; omega)), hf21.cong (fun k hk => by simp only [sPut, ← hv, pu, ↓reduceIte] <;> (repeat' split) <;> first | rfl | omega | (congr 1; omega) | (congr 2; omega))⟩, (fun q hq => (o16 (q) (by omega)))⟩
            · skip
              refine lv_aload_n hx hb dX2_putWhatFits_69 rfl (lv_at hl 1 rfl) ?_
              refine g_get (ci := 4) (v := .ref (h + 2)) (C := RX2) (T := TX2) (N := 5) hx hb hts iU_X2 hown hK hM ⟨by omega, by omega⟩ hE0 rfl 1 (by decide) (hts _ u_57) (fun _ h9 => h9) rfl dX2_putWhatFits_70 ?_
              refine lv_iload_n hx hb dX2_putWhatFits_73 rfl (lv_at hl 2 rfl) ?_
              refine g_iald hx hb hK hM ⟨by omega, by omega⟩ hE2 (by omega) (by omega) (by decide) dX2_putWhatFits_74 ?_
              show W _ _ _ _ _ _ _ _ _ _ _ _ _ _ _ (F0 _ _ _ (.int (zI (P (12 + 4 * e))) :: _))
              refine g_i2l hx hb dX2_putWhatFits_75 ⟨by omega, by omega⟩ ?_
              refine lv_aload_n hx hb dX2_putWhatFits_76 rfl (lv_at hl 1 rfl) ?_
              refine g_get (ci := 4) (v := .ref (h + 1)) (C := RX2) (T := TX2) (N := 5) hx hb hts iU_X2 hown hK hM ⟨by omega, by omega⟩ hE0 rfl 0 (by decide) (hts _ u_56) (fun _ h9 => h9) rfl dX2_putWhatFits_77 ?_
              refine lv_iload_n hx hb dX2_putWhatFits_80 rfl (lv_at hl 2 rfl) ?_
              refine g_lald hx hb hK hM ⟨by omega, by omega⟩ hE1 (by omega) (by omega) (by decide) dX2_putWhatFits_81 ?_
              show W _ _ _ _ _ _ _ _ _ _ _ _ _ _ _ (F0 _ _ _ (.long (zL (P (11 + 4 * e))) :: _))
              refine g_lsub hx hb dX2_putWhatFits_82 ?_
              refine lv_goto (tgt := 87) hx hb dX2_putWhatFits_83 (by decide) ?_
              refine lv_lstore (lv' := [(4, .long (zL ((P (12 + 4 * e)) - (P (11 + 4 * e))))), (0, .ref h), (1, .int (zI (↑e : Int))), (2, .long (zL a))]) hx hb dX2_putWhatFits_87 hl (by decide) rfl (fun ls hl => ?_)
              refine lv_aload_n hx hb dX2_putWhatFits_89 rfl (lv_at hl 1 rfl) ?_
              refine g_get (ci := 4) (v := .ref (h + 1)) (C := RX2) (T := TX2) (N := 5) hx hb hts iU_X2 hown hK hM ⟨by omega, by omega⟩ hE0 rfl 0 (by decide) (hts _ u_56) (fun _ h9 => h9) rfl dX2_putWhatFits_90 ?_
              refine lv_iload_n hx hb dX2_putWhatFits_93 rfl (lv_at hl 2 rfl) ?_
              refine lv_dup2_11 hx hb dX2_putWhatFits_94 rfl rfl ?_
              refine g_lald hx hb hK hM ⟨by omega, by omega⟩ hE1 (by omega) (by omega) (by decide) dX2_putWhatFits_95 ?_
              show W _ _ _ _ _ _ _ _ _ _ _ _ _ _ _ (F0 _ _ _ (.long (zL (P (11 + 4 * e))) :: _))
              refine lv_lload hx hb dX2_putWhatFits_96 (lv_at hl 0 rfl) ?_
              refine g_ladd hx hb dX2_putWhatFits_98 ?_
              refine g_last hx hb hK hM ⟨by omega, by omega⟩ hE1 (by omega) (by omega) (by decide) dX2_putWhatFits_99 (fun f22 H locs hM ha24 o23 => ?_)
              refine lv_lload hx hb dX2_putWhatFits_100 (lv_at hl 0 rfl) ?_
              have hf25 : f22 (h) = .inr (4, [.ref (h + 1), .ref (h + 2), .ref (h + 3), .ref (h + 4), .int (zI (P 7))]) := (o23 (h) (by omega)).trans hE0
              have hf26 := hE2.kept (o23 (h + 2) (by omega))
              have hf27 := hE3.kept (o23 (h + 3) (by omega))
              have hf28 := hE4.kept (o23 (h + 4) (by omega))
              refine g_lret hx hb hr hlk hK hM dX2_putWhatFits_102 ?_
              have hv : ((P (12 + 4 * e)) - (P (11 + 4 * e))) = sIs P e a := by unfold sIs; split <;> omega
              exact ⟨by rw [← hv], ⟨hf25.trans (by simp only [sPut, ← hv, pu, ↓reduceIte] <;> (repeat' split) <;> first | rfl | omega | (congr 1; omega) | (congr 2; omega)), ha24.cong (fun k hk => by simp only [sPut, ← hv, pu, ↓reduceIte] <;> (repeat' split) <;> first | rfl | omega | (congr 1; omega) | (congr 2; omega)), hf26.cong (fun k hk => by simp only [sPut, ← hv, pu, ↓reduceIte] <;> (repeat' split) <;> first | rfl | omega | (congr 1; omega) | (congr 2; omega)), hf27.cong (fun k hk => by simp only [sPut, ← hv, pu, ↓reduceIte] <;> (repeat' split) <;> first | rfl | omega | (congr 1; omega) | (congr 2; omega)), hf28.cong (fun k hk => by simp only [sPut, ← hv, pu, ↓reduceIte] <;> (repeat' split) <;> first | rfl | omega | (congr 1; omega) | (congr 2; omega))⟩, (fun q hq => (o23 (q) (by omega)))⟩
      · skip
        refine g_lconst (z := 0) hx hb dX2_putWhatFits_18 (by decide) ?_
        refine g_lret hx hb hr hlk hK hM dX2_putWhatFits_19 ?_
        exfalso; omega

def po_X2_spendWhatIsThere (g : gE) (f : gF) (h : Nat) (P : Nat → Int) (e : Nat) (a : Int) : Int64 → gF → Prop := fun r f1 => r = zL (min (P (11 + 4 * e)) a) ∧ envAt g f1 h (sDrain P e a) ∧ ∀ q, (q < h ∨ h + 5 ≤ q) → f1 q = f q
set_option maxRecDepth 100000 in
set_option maxHeartbeats 4000000 in
/-- drain(e, a), a valid e -/
theorem c_X2_spendWhatIsThere (l : Launch) (g : gE) (b0 n : Nat) (f : gF) (h : Nat) (P : Nat → Int) (e : Nat) (a : Int) (hE : envAt g f h P) (hrg : b0 ≤ h ∧ h + 5 ≤ b0 + n) (hcn : 0 ≤ P 7 ∧ P 7 ≤ 10) (he : (e : Int) < P 7) (hbr : 0 ≤ P (11 + 4 * e) ∧ P (11 + 4 * e) ≤ 1000000000000000000) (har : 0 ≤ a ∧ a ≤ 1000000000000000000) : cL l yX2_spendWhatIsThere cX2_spendWhatIsThere 6 (some .long) 0 0 [.ref h, .int (zI (↑e : Int)), .long (zL a)] g b0 n f (po_X2_spendWhatIsThere g f h P e a) := by
  refine gs_l (cc := cX2_spendWhatIsThere) (maxL := 6) (ret := (some .long)) (by decide) (Nat.le_of_ble_eq_true rfl) ?_
  intro p e0 s m args below meth c ls hx hb hr hml hown hts hlk hK hM hl
  have hl : lv_has ls 6 [(0, .ref h), (1, .int (zI (↑e : Int))), (2, .long (zL a))] := hl
  obtain ⟨hE0, hE1, hE2, hE3, hE4⟩ := hE
  have hzn := hcn.1
  have hzm := hcn.2
  have hen : e < 10 := by omega
  have hbr1 := hbr.1
  have hbr2 := hbr.2
  have har1 := har.1
  have har2 := har.2
  refine lv_iload_n hx hb dX2_spendWhatIsThere_0 rfl (lv_at hl 1 rfl) ?_
  refine g_if_lt (tgt := 18) hx hb dX2_spendWhatIsThere_1 (by decide) ⟨by omega, by omega⟩ (fun c1 => ?_) (fun c1 => ?_)
  · skip
    refine g_lconst (z := 0) hx hb dX2_spendWhatIsThere_18 (by decide) ?_
    refine g_lret hx hb hr hlk hK hM dX2_spendWhatIsThere_19 ?_
    exfalso; omega
  · skip
    refine lv_iload_n hx hb dX2_spendWhatIsThere_4 rfl (lv_at hl 1 rfl) ?_
    refine lv_aload_n hx hb dX2_spendWhatIsThere_5 rfl (lv_at hl 0 rfl) ?_
    refine g_get (ci := 4) (v := .int (zI (P 7))) (C := RX2) (T := TX2) (N := 5) hx hb hts iU_X2 hown hK hM ⟨by omega, by omega⟩ hE0 rfl 4 (by decide) (hts _ u_60) (fun _ h9 => h9) rfl dX2_spendWhatIsThere_6 ?_
    refine g_icmp_ge (tgt := 18) hx hb dX2_spendWhatIsThere_9 (by decide) ⟨by omega, by omega⟩ ⟨by omega, by omega⟩ (fun c9 => ?_) (fun c9 => ?_)
    · skip
      refine g_lconst (z := 0) hx hb dX2_spendWhatIsThere_18 (by decide) ?_
      refine g_lret hx hb hr hlk hK hM dX2_spendWhatIsThere_19 ?_
      exfalso; omega
    · skip
      refine lv_iload_n hx hb dX2_spendWhatIsThere_12 rfl (lv_at hl 1 rfl) ?_
      refine g_bipush hx hb dX2_spendWhatIsThere_13 (by decide) ?_
      refine g_icmp_lt (tgt := 20) hx hb dX2_spendWhatIsThere_15 (by decide) ⟨by omega, by omega⟩ (by decide) (fun c15 => ?_) (fun c15 => ?_)
      · skip
        refine lv_aload_n hx hb dX2_spendWhatIsThere_20 rfl (lv_at hl 0 rfl) ?_
        refine g_get (ci := 4) (v := .ref (h + 1)) (C := RX2) (T := TX2) (N := 5) hx hb hts iU_X2 hown hK hM ⟨by omega, by omega⟩ hE0 rfl 0 (by decide) (hts _ u_56) (fun _ h9 => h9) rfl dX2_spendWhatIsThere_21 ?_
        refine lv_iload_n hx hb dX2_spendWhatIsThere_24 rfl (lv_at hl 1 rfl) ?_
        refine g_lald hx hb hK hM ⟨by omega, by omega⟩ hE1 (by omega) (by omega) (by decide) dX2_spendWhatIsThere_25 ?_
        show W _ _ _ _ _ _ _ _ _ _ _ _ _ _ _ (F0 _ _ _ (.long (zL (P (11 + 4 * e))) :: _))
        refine lv_lload_n hx hb dX2_spendWhatIsThere_26 rfl (lv_at hl 2 rfl) ?_
        refine g_lcmp_ge (tgt := 40) hx hb dX2_spendWhatIsThere_27 dX2_spendWhatIsThere_28 (by decide) ⟨by omega, by omega⟩ ⟨by omega, by omega⟩ (fun c27 => ?_) (fun c27 => ?_)
        · skip
          refine lv_lload_n hx hb dX2_spendWhatIsThere_40 rfl (lv_at hl 2 rfl) ?_
          refine lv_lstore (lv' := [(4, .long (zL a)), (0, .ref h), (1, .int (zI (↑e : Int))), (2, .long (zL a))]) hx hb dX2_spendWhatIsThere_41 hl (by decide) rfl (fun ls hl => ?_)
          refine lv_aload_n hx hb dX2_spendWhatIsThere_43 rfl (lv_at hl 1 rfl) ?_
          refine g_get (ci := 4) (v := .ref (h + 1)) (C := RX2) (T := TX2) (N := 5) hx hb hts iU_X2 hown hK hM ⟨by omega, by omega⟩ hE0 rfl 0 (by decide) (hts _ u_56) (fun _ h9 => h9) rfl dX2_spendWhatIsThere_44 ?_
          refine lv_iload_n hx hb dX2_spendWhatIsThere_47 rfl (lv_at hl 2 rfl) ?_
          refine lv_dup2_11 hx hb dX2_spendWhatIsThere_48 rfl rfl ?_
          refine g_lald hx hb hK hM ⟨by omega, by omega⟩ hE1 (by omega) (by omega) (by decide) dX2_spendWhatIsThere_49 ?_
          show W _ _ _ _ _ _ _ _ _ _ _ _ _ _ _ (F0 _ _ _ (.long (zL (P (11 + 4 * e))) :: _))
          refine lv_lload hx hb dX2_spendWhatIsThere_50 (lv_at hl 0 rfl) ?_
          refine g_lsub hx hb dX2_spendWhatIsThere_52 ?_
          refine g_last hx hb hK hM ⟨by omega, by omega⟩ hE1 (by omega) (by omega) (by decide) dX2_spendWhatIsThere_53 (fun f1 H locs hM ha3 o2 => ?_)
          refine lv_aload_n hx hb dX2_spendWhatIsThere_54 rfl (lv_at hl 1 rfl) ?_
          have hf4 : f1 (h) = .inr (4, [.ref (h + 1), .ref (h + 2), .ref (h + 3), .ref (h + 4), .int (zI (P 7))]) := (o2 (h) (by omega)).trans hE0
          refine g_get (ci := 4) (v := .ref (h + 4)) (C := RX2) (T := TX2) (N := 5) hx hb hts iU_X2 hown hK hM ⟨by omega, by omega⟩ hf4 rfl 3 (by decide) (hts _ u_59) (fun _ h9 => h9) rfl dX2_spendWhatIsThere_55 ?_
          refine lv_iload_n hx hb dX2_spendWhatIsThere_58 rfl (lv_at hl 2 rfl) ?_
          refine lv_dup2_11 hx hb dX2_spendWhatIsThere_59 rfl rfl ?_
          have hf5 := hE4.kept (o2 (h + 4) (by omega))
          refine g_lald hx hb hK hM ⟨by omega, by omega⟩ hf5 (by omega) (by omega) (by decide) dX2_spendWhatIsThere_60 ?_
          show W _ _ _ _ _ _ _ _ _ _ _ _ _ _ _ (F0 _ _ _ (.long (zL (P (14 + 4 * e))) :: _))
          refine lv_lload hx hb dX2_spendWhatIsThere_61 (lv_at hl 0 rfl) ?_
          refine g_ladd hx hb dX2_spendWhatIsThere_63 ?_
          refine g_last hx hb hK hM ⟨by omega, by omega⟩ hf5 (by omega) (by omega) (by decide) dX2_spendWhatIsThere_64 (fun f6 H locs hM ha8 o7 => ?_)
          refine lv_lload hx hb dX2_spendWhatIsThere_65 (lv_at hl 0 rfl) ?_
          have hf9 : f6 (h) = .inr (4, [.ref (h + 1), .ref (h + 2), .ref (h + 3), .ref (h + 4), .int (zI (P 7))]) := (o7 (h) (by omega)).trans hf4
          have hf10 := ha3.kept (o7 (h + 1) (by omega))
          have hf11 := hE2.kept ((o7 (h + 2) (by omega)).trans (o2 (h + 2) (by omega)))
          have hf12 := hE3.kept ((o7 (h + 3) (by omega)).trans (o2 (h + 3) (by omega)))
          refine g_lret hx hb hr hlk hK hM dX2_spendWhatIsThere_67 ?_
          have hv : a = min (P (11 + 4 * e)) a := by omega
          exact ⟨by rw [← hv], ⟨hf9.trans (by simp only [sDrain, ← hv, pu, ↓reduceIte] <;> (repeat' split) <;> first | rfl | omega | (congr 1; omega) | (congr 2; omega)), hf10.cong (fun k hk => by simp only [sDrain, ← hv, pu, ↓reduceIte] <;> (repeat' split) <;> first | rfl | omega | (congr 1; omega) | (congr 2; omega)), hf11.cong (fun k hk => by simp only [sDrain, ← hv, pu, ↓reduceIte] <;> (repeat' split) <;> first | rfl | omega | (congr 1; omega) | (congr 2; omega)), hf12.cong (fun k hk => by simp only [sDrain, ← hv, pu, ↓reduceIte] <;> (repeat' split) <;> first | rfl | omega | (congr 1; omega) | (congr 2; omega)), ha8.cong (fun k hk => by simp only [sDrain, ← hv, pu, ↓reduceIte] <;> (repeat' split) <;> first | rfl | omega | (congr 1; omega) | (congr 2; omega))⟩, (fun q hq => ((o7 (q) (by omega)).trans (o2 (q) (by omega))))⟩
        · skip
          refine lv_aload_n hx hb dX2_spendWhatIsThere_31 rfl (lv_at hl 0 rfl) ?_
          refine g_get (ci := 4) (v := .ref (h + 1)) (C := RX2) (T := TX2) (N := 5) hx hb hts iU_X2 hown hK hM ⟨by omega, by omega⟩ hE0 rfl 0 (by decide) (hts _ u_56) (fun _ h9 => h9) rfl dX2_spendWhatIsThere_32 ?_
          refine lv_iload_n hx hb dX2_spendWhatIsThere_35 rfl (lv_at hl 1 rfl) ?_
          refine g_lald hx hb hK hM ⟨by omega, by omega⟩ hE1 (by omega) (by omega) (by decide) dX2_spendWhatIsThere_36 ?_
          show W _ _ _ _ _ _ _ _ _ _ _ _ _ _ _ (F0 _ _ _ (.long (zL (P (11 + 4 * e))) :: _))
          refine lv_goto (tgt := 41) hx hb dX2_spendWhatIsThere_37 (by decide) ?_
          refine lv_lstore (lv' := [(4, .long (zL (P (11 + 4 * e)))), (0, .ref h), (1, .int (zI (↑e : Int))), (2, .long (zL a))]) hx hb dX2_spendWhatIsThere_41 hl (by decide) rfl (fun ls hl => ?_)
          refine lv_aload_n hx hb dX2_spendWhatIsThere_43 rfl (lv_at hl 1 rfl) ?_
          refine g_get (ci := 4) (v := .ref (h + 1)) (C := RX2) (T := TX2) (N := 5) hx hb hts iU_X2 hown hK hM ⟨by omega, by omega⟩ hE0 rfl 0 (by decide) (hts _ u_56) (fun _ h9 => h9) rfl dX2_spendWhatIsThere_44 ?_
          refine lv_iload_n hx hb dX2_spendWhatIsThere_47 rfl (lv_at hl 2 rfl) ?_
          refine lv_dup2_11 hx hb dX2_spendWhatIsThere_48 rfl rfl ?_
          refine g_lald hx hb hK hM ⟨by omega, by omega⟩ hE1 (by omega) (by omega) (by decide) dX2_spendWhatIsThere_49 ?_
          show W _ _ _ _ _ _ _ _ _ _ _ _ _ _ _ (F0 _ _ _ (.long (zL (P (11 + 4 * e))) :: _))
          refine lv_lload hx hb dX2_spendWhatIsThere_50 (lv_at hl 0 rfl) ?_
          refine g_lsub hx hb dX2_spendWhatIsThere_52 ?_
          refine g_last hx hb hK hM ⟨by omega, by omega⟩ hE1 (by omega) (by omega) (by decide) dX2_spendWhatIsThere_53 (fun f13 H locs hM ha15 o14 => ?_)
          refine lv_aload_n hx hb dX2_spendWhatIsThere_54 rfl (lv_at hl 1 rfl) ?_
          have hf16 : f13 (h) = .inr (4, [.ref (h + 1), .ref (h + 2), .ref (h + 3), .ref (h + 4), .int (zI (P 7))]) := (o14 (h) (by omega)).trans hE0
          refine g_get (ci := 4) (v := .ref (h + 4)) (C := RX2) (T := TX2) (N := 5) hx hb hts iU_X2 hown hK hM ⟨by omega, by omega⟩ hf16 rfl 3 (by decide) (hts _ u_59) (fun _ h9 => h9) rfl dX2_spendWhatIsThere_55 ?_
          refine lv_iload_n hx hb dX2_spendWhatIsThere_58 rfl (lv_at hl 2 rfl) ?_
          refine lv_dup2_11 hx hb dX2_spendWhatIsThere_59 rfl rfl ?_
          have hf17 := hE4.kept (o14 (h + 4) (by omega))
          refine g_lald hx hb hK hM ⟨by omega, by omega⟩ hf17 (by omega) (by omega) (by decide) dX2_spendWhatIsThere_60 ?_
          show W _ _ _ _ _ _ _ _ _ _ _ _ _ _ _ (F0 _ _ _ (.long (zL (P (14 + 4 * e))) :: _))
          refine lv_lload hx hb dX2_spendWhatIsThere_61 (lv_at hl 0 rfl) ?_
          refine g_ladd hx hb dX2_spendWhatIsThere_63 ?_
          refine g_last hx hb hK hM ⟨by omega, by omega⟩ hf17 (by omega) (by omega) (by decide) dX2_spendWhatIsThere_64 (fun f18 H locs hM ha20 o19 => ?_)
          refine lv_lload hx hb dX2_spendWhatIsThere_65 (lv_at hl 0 rfl) ?_
          have hf21 : f18 (h) = .inr (4, [.ref (h + 1), .ref (h + 2), .ref (h + 3), .ref (h + 4), .int (zI (P 7))]) := (o19 (h) (by omega)).trans hf16
          have hf22 := ha15.kept (o19 (h + 1) (by omega))
          have hf23 := hE2.kept ((o19 (h + 2) (by omega)).trans (o14 (h + 2) (by omega)))
          have hf24 := hE3.kept ((o19 (h + 3) (by omega)).trans (o14 (h + 3) (by omega)))
          refine g_lret hx hb hr hlk hK hM dX2_spendWhatIsThere_67 ?_
          have hv : (P (11 + 4 * e)) = min (P (11 + 4 * e)) a := by omega
          exact ⟨by rw [← hv], ⟨hf21.trans (by simp only [sDrain, ← hv, pu, ↓reduceIte] <;> (repeat' split) <;> first | rfl | omega | (congr 1; omega) | (congr 2; omega)), hf22.cong (fun k hk => by simp only [sDrain, ← hv, pu, ↓reduceIte] <;> (repeat' split) <;> first | rfl | omega | (congr 1; omega) | (congr 2; omega)), hf23.cong (fun k hk => by simp only [sDrain, ← hv, pu, ↓reduceIte] <;> (repeat' split) <;> first | rfl | omega | (congr 1; omega) | (congr 2; omega)), hf24.cong (fun k hk => by simp only [sDrain, ← hv, pu, ↓reduceIte] <;> (repeat' split) <;> first | rfl | omega | (congr 1; omega) | (congr 2; omega)), ha20.cong (fun k hk => by simp only [sDrain, ← hv, pu, ↓reduceIte] <;> (repeat' split) <;> first | rfl | omega | (congr 1; omega) | (congr 2; omega))⟩, (fun q hq => ((o19 (q) (by omega)).trans (o14 (q) (by omega))))⟩
      · skip
        refine g_lconst (z := 0) hx hb dX2_spendWhatIsThere_18 (by decide) ?_
        refine g_lret hx hb hr hlk hK hM dX2_spendWhatIsThere_19 ?_
        exfalso; omega

def po_X2_release (g : gE) (f : gF) (h : Nat) (P : Nat → Int) (e : Nat) : Int64 → gF → Prop := fun r f1 => r = zL (sRel P e) ∧ envAt g f1 h (pu P (11 + 4 * e) (P (11 + 4 * e) - sRel P e)) ∧ ∀ q, (q < h ∨ h + 5 ≤ q) → f1 q = f q
set_option maxRecDepth 100000 in
set_option maxHeartbeats 4000000 in
/-- release(e), a valid e -/
theorem c_X2_release (l : Launch) (g : gE) (b0 n : Nat) (f : gF) (h : Nat) (P : Nat → Int) (e : Nat) (hE : envAt g f h P) (hrg : b0 ≤ h ∧ h + 5 ≤ b0 + n) (hcn : 0 ≤ P 7 ∧ P 7 ≤ 10) (he : (e : Int) < P 7) (hbr : 0 ≤ P (11 + 4 * e) ∧ P (11 + 4 * e) ≤ 1000000000000000000) (hro : 0 ≤ P (13 + 4 * e) ∧ P (13 + 4 * e) ≤ 2) : cL l yX2_release cX2_release 4 (some .long) 0 0 [.ref h, .int (zI (↑e : Int))] g b0 n f (po_X2_release g f h P e) := by
  refine gs_l (cc := cX2_release) (maxL := 4) (ret := (some .long)) (by decide) (Nat.le_of_ble_eq_true rfl) ?_
  intro p e0 s m args below meth c ls hx hb hr hml hown hts hlk hK hM hl
  have hl : lv_has ls 4 [(0, .ref h), (1, .int (zI (↑e : Int)))] := hl
  obtain ⟨hE0, hE1, hE2, hE3, hE4⟩ := hE
  have hzn := hcn.1
  have hzm := hcn.2
  have hen : e < 10 := by omega
  have hbr1 := hbr.1
  have hbr2 := hbr.2
  have hro1 := hro.1
  have hro2 := hro.2
  refine lv_iload_n hx hb dX2_release_0 rfl (lv_at hl 1 rfl) ?_
  refine g_if_lt (tgt := 27) hx hb dX2_release_1 (by decide) ⟨by omega, by omega⟩ (fun c1 => ?_) (fun c1 => ?_)
  · skip
    refine g_lconst (z := 0) hx hb dX2_release_27 (by decide) ?_
    refine g_lret hx hb hr hlk hK hM dX2_release_28 ?_
    by_cases hro0 : P (13 + 4 * e) = 0
    case neg => exfalso; omega
    have hv : sRel P e = 0 := by unfold sRel; rw [if_neg (by omega), if_neg (by omega)]
    refine ⟨by rw [hv], ?_, fun q hq => rfl⟩
    rw [hv, show pu P (11 + 4 * e) (P (11 + 4 * e) - 0) = P from by funext j; simp only [pu]; split <;> simp_all]
    exact ⟨hE0, hE1, hE2, hE3, hE4⟩
  · skip
    refine lv_iload_n hx hb dX2_release_4 rfl (lv_at hl 1 rfl) ?_
    refine lv_aload_n hx hb dX2_release_5 rfl (lv_at hl 0 rfl) ?_
    refine g_get (ci := 4) (v := .int (zI (P 7))) (C := RX2) (T := TX2) (N := 5) hx hb hts iU_X2 hown hK hM ⟨by omega, by omega⟩ hE0 rfl 4 (by decide) (hts _ u_60) (fun _ h9 => h9) rfl dX2_release_6 ?_
    refine g_icmp_ge (tgt := 27) hx hb dX2_release_9 (by decide) ⟨by omega, by omega⟩ ⟨by omega, by omega⟩ (fun c9 => ?_) (fun c9 => ?_)
    · skip
      refine g_lconst (z := 0) hx hb dX2_release_27 (by decide) ?_
      refine g_lret hx hb hr hlk hK hM dX2_release_28 ?_
      by_cases hro0 : P (13 + 4 * e) = 0
      case neg => exfalso; omega
      have hv : sRel P e = 0 := by unfold sRel; rw [if_neg (by omega), if_neg (by omega)]
      refine ⟨by rw [hv], ?_, fun q hq => rfl⟩
      rw [hv, show pu P (11 + 4 * e) (P (11 + 4 * e) - 0) = P from by funext j; simp only [pu]; split <;> simp_all]
      exact ⟨hE0, hE1, hE2, hE3, hE4⟩
    · skip
      refine lv_iload_n hx hb dX2_release_12 rfl (lv_at hl 1 rfl) ?_
      refine g_bipush hx hb dX2_release_13 (by decide) ?_
      refine g_icmp_ge (tgt := 27) hx hb dX2_release_15 (by decide) ⟨by omega, by omega⟩ (by decide) (fun c15 => ?_) (fun c15 => ?_)
      · skip
        refine g_lconst (z := 0) hx hb dX2_release_27 (by decide) ?_
        refine g_lret hx hb hr hlk hK hM dX2_release_28 ?_
        by_cases hro0 : P (13 + 4 * e) = 0
        case neg => exfalso; omega
        have hv : sRel P e = 0 := by unfold sRel; rw [if_neg (by omega), if_neg (by omega)]
        refine ⟨by rw [hv], ?_, fun q hq => rfl⟩
        rw [hv, show pu P (11 + 4 * e) (P (11 + 4 * e) - 0) = P from by funext j; simp only [pu]; split <;> simp_all]
        exact ⟨hE0, hE1, hE2, hE3, hE4⟩
      · skip
        refine lv_aload_n hx hb dX2_release_18 rfl (lv_at hl 0 rfl) ?_
        refine g_get (ci := 4) (v := .ref (h + 3)) (C := RX2) (T := TX2) (N := 5) hx hb hts iU_X2 hown hK hM ⟨by omega, by omega⟩ hE0 rfl 2 (by decide) (hts _ u_58) (fun _ h9 => h9) rfl dX2_release_19 ?_
        refine lv_iload_n hx hb dX2_release_22 rfl (lv_at hl 1 rfl) ?_
        refine g_iald hx hb hK hM ⟨by omega, by omega⟩ hE3 (by omega) (by omega) (by decide) dX2_release_23 ?_
        show W _ _ _ _ _ _ _ _ _ _ _ _ _ _ _ (F0 _ _ _ (.int (zI (P (13 + 4 * e))) :: _))
        refine g_if_ne (tgt := 29) hx hb dX2_release_24 (by decide) ⟨by omega, by omega⟩ (fun c24 => ?_) (fun c24 => ?_)
        · skip
          refine lv_aload_n hx hb dX2_release_29 rfl (lv_at hl 0 rfl) ?_
          refine g_get (ci := 4) (v := .ref (h + 3)) (C := RX2) (T := TX2) (N := 5) hx hb hts iU_X2 hown hK hM ⟨by omega, by omega⟩ hE0 rfl 2 (by decide) (hts _ u_58) (fun _ h9 => h9) rfl dX2_release_30 ?_
          refine lv_iload_n hx hb dX2_release_33 rfl (lv_at hl 1 rfl) ?_
          refine g_iald hx hb hK hM ⟨by omega, by omega⟩ hE3 (by omega) (by omega) (by decide) dX2_release_34 ?_
          show W _ _ _ _ _ _ _ _ _ _ _ _ _ _ _ (F0 _ _ _ (.int (zI (P (13 + 4 * e))) :: _))
          refine g_iconst hx hb dX2_release_35 ?_
          refine g_icmp_ne (tgt := 48) hx hb dX2_release_36 (by decide) ⟨by omega, by omega⟩ (by decide) (fun c36 => ?_) (fun c36 => ?_)
          · skip
            refine lv_aload_n hx hb dX2_release_48 rfl (lv_at hl 0 rfl) ?_
            refine g_get (ci := 4) (v := .ref (h + 1)) (C := RX2) (T := TX2) (N := 5) hx hb hts iU_X2 hown hK hM ⟨by omega, by omega⟩ hE0 rfl 0 (by decide) (hts _ u_56) (fun _ h9 => h9) rfl dX2_release_49 ?_
            refine lv_iload_n hx hb dX2_release_52 rfl (lv_at hl 1 rfl) ?_
            refine g_lald hx hb hK hM ⟨by omega, by omega⟩ hE1 (by omega) (by omega) (by decide) dX2_release_53 ?_
            show W _ _ _ _ _ _ _ _ _ _ _ _ _ _ _ (F0 _ _ _ (.long (zL (P (11 + 4 * e))) :: _))
            refine g_ldc2 (z := 2) hx hb hown (hts _ u_533) dX2_release_54 (by decide) ?_
            refine g_ldiv hx hb dX2_release_57 ⟨by omega, by omega⟩ (by decide) (by decide) ?_
            refine lv_lstore_n (lv' := [(2, .long (zL (Int.tdiv (P (11 + 4 * e)) 2))), (0, .ref h), (1, .int (zI (↑e : Int)))]) hx hb dX2_release_58 rfl hl (by decide) rfl (fun ls hl => ?_)
            refine lv_aload_n hx hb dX2_release_59 rfl (lv_at hl 1 rfl) ?_
            refine g_get (ci := 4) (v := .ref (h + 1)) (C := RX2) (T := TX2) (N := 5) hx hb hts iU_X2 hown hK hM ⟨by omega, by omega⟩ hE0 rfl 0 (by decide) (hts _ u_56) (fun _ h9 => h9) rfl dX2_release_60 ?_
            refine lv_iload_n hx hb dX2_release_63 rfl (lv_at hl 2 rfl) ?_
            refine lv_dup2_11 hx hb dX2_release_64 rfl rfl ?_
            refine g_lald hx hb hK hM ⟨by omega, by omega⟩ hE1 (by omega) (by omega) (by decide) dX2_release_65 ?_
            show W _ _ _ _ _ _ _ _ _ _ _ _ _ _ _ (F0 _ _ _ (.long (zL (P (11 + 4 * e))) :: _))
            refine lv_lload_n hx hb dX2_release_66 rfl (lv_at hl 0 rfl) ?_
            refine g_lsub hx hb dX2_release_67 ?_
            refine g_last hx hb hK hM ⟨by omega, by omega⟩ hE1 (by omega) (by omega) (by decide) dX2_release_68 (fun f1 H locs hM ha3 o2 => ?_)
            refine lv_lload_n hx hb dX2_release_69 rfl (lv_at hl 0 rfl) ?_
            have hf4 : f1 (h) = .inr (4, [.ref (h + 1), .ref (h + 2), .ref (h + 3), .ref (h + 4), .int (zI (P 7))]) := (o2 (h) (by omega)).trans hE0
            have hf5 := hE2.kept (o2 (h + 2) (by omega))
            have hf6 := hE3.kept (o2 (h + 3) (by omega))
            have hf7 := hE4.kept (o2 (h + 4) (by omega))
            refine g_lret hx hb hr hlk hK hM dX2_release_70 ?_
            have hv : (Int.tdiv (P (11 + 4 * e)) 2) = sRel P e := by unfold sRel <;> (repeat' split) <;> first | rfl | (exfalso; omega)
            exact ⟨by rw [← hv], ⟨hf4.trans (by simp only [← hv, pu, ↓reduceIte] <;> (repeat' split) <;> first | rfl | omega | (congr 1; omega) | (congr 2; omega)), ha3.cong (fun k hk => by simp only [← hv, pu, ↓reduceIte] <;> (repeat' split) <;> first | rfl | omega | (congr 1; omega) | (congr 2; omega)), hf5.cong (fun k hk => by simp only [← hv, pu, ↓reduceIte] <;> (repeat' split) <;> first | rfl | omega | (congr 1; omega) | (congr 2; omega)), hf6.cong (fun k hk => by simp only [← hv, pu, ↓reduceIte] <;> (repeat' split) <;> first | rfl | omega | (congr 1; omega) | (congr 2; omega)), hf7.cong (fun k hk => by simp only [← hv, pu, ↓reduceIte] <;> (repeat' split) <;> first | rfl | omega | (congr 1; omega) | (congr 2; omega))⟩, (fun q hq => (o2 (q) (by omega)))⟩
          · skip
            refine lv_aload_n hx hb dX2_release_39 rfl (lv_at hl 0 rfl) ?_
            refine g_get (ci := 4) (v := .ref (h + 1)) (C := RX2) (T := TX2) (N := 5) hx hb hts iU_X2 hown hK hM ⟨by omega, by omega⟩ hE0 rfl 0 (by decide) (hts _ u_56) (fun _ h9 => h9) rfl dX2_release_40 ?_
            refine lv_iload_n hx hb dX2_release_43 rfl (lv_at hl 1 rfl) ?_
            refine g_lald hx hb hK hM ⟨by omega, by omega⟩ hE1 (by omega) (by omega) (by decide) dX2_release_44 ?_
            show W _ _ _ _ _ _ _ _ _ _ _ _ _ _ _ (F0 _ _ _ (.long (zL (P (11 + 4 * e))) :: _))
            refine lv_goto (tgt := 58) hx hb dX2_release_45 (by decide) ?_
            refine lv_lstore_n (lv' := [(2, .long (zL (P (11 + 4 * e)))), (0, .ref h), (1, .int (zI (↑e : Int)))]) hx hb dX2_release_58 rfl hl (by decide) rfl (fun ls hl => ?_)
            refine lv_aload_n hx hb dX2_release_59 rfl (lv_at hl 1 rfl) ?_
            refine g_get (ci := 4) (v := .ref (h + 1)) (C := RX2) (T := TX2) (N := 5) hx hb hts iU_X2 hown hK hM ⟨by omega, by omega⟩ hE0 rfl 0 (by decide) (hts _ u_56) (fun _ h9 => h9) rfl dX2_release_60 ?_
            refine lv_iload_n hx hb dX2_release_63 rfl (lv_at hl 2 rfl) ?_
            refine lv_dup2_11 hx hb dX2_release_64 rfl rfl ?_
            refine g_lald hx hb hK hM ⟨by omega, by omega⟩ hE1 (by omega) (by omega) (by decide) dX2_release_65 ?_
            show W _ _ _ _ _ _ _ _ _ _ _ _ _ _ _ (F0 _ _ _ (.long (zL (P (11 + 4 * e))) :: _))
            refine lv_lload_n hx hb dX2_release_66 rfl (lv_at hl 0 rfl) ?_
            refine g_lsub hx hb dX2_release_67 ?_
            refine g_last hx hb hK hM ⟨by omega, by omega⟩ hE1 (by omega) (by omega) (by decide) dX2_release_68 (fun f8 H locs hM ha10 o9 => ?_)
            refine lv_lload_n hx hb dX2_release_69 rfl (lv_at hl 0 rfl) ?_
            have hf11 : f8 (h) = .inr (4, [.ref (h + 1), .ref (h + 2), .ref (h + 3), .ref (h + 4), .int (zI (P 7))]) := (o9 (h) (by omega)).trans hE0
            have hf12 := hE2.kept (o9 (h + 2) (by omega))
            have hf13 := hE3.kept (o9 (h + 3) (by omega))
            have hf14 := hE4.kept (o9 (h + 4) (by omega))
            refine g_lret hx hb hr hlk hK hM dX2_release_70 ?_
            have hv : (P (11 + 4 * e)) = sRel P e := by unfold sRel <;> (repeat' split) <;> first | rfl | (exfalso; omega)
            exact ⟨by rw [← hv], ⟨hf11.trans (by simp only [← hv, pu, ↓reduceIte] <;> (repeat' split) <;> first | rfl | omega | (congr 1; omega) | (congr 2; omega)), ha10.cong (fun k hk => by simp only [← hv, pu, ↓reduceIte] <;> (repeat' split) <;> first | rfl | omega | (congr 1; omega) | (congr 2; omega)), hf12.cong (fun k hk => by simp only [← hv, pu, ↓reduceIte] <;> (repeat' split) <;> first | rfl | omega | (congr 1; omega) | (congr 2; omega)), hf13.cong (fun k hk => by simp only [← hv, pu, ↓reduceIte] <;> (repeat' split) <;> first | rfl | omega | (congr 1; omega) | (congr 2; omega)), hf14.cong (fun k hk => by simp only [← hv, pu, ↓reduceIte] <;> (repeat' split) <;> first | rfl | omega | (congr 1; omega) | (congr 2; omega))⟩, (fun q hq => (o9 (q) (by omega)))⟩
        · skip
          refine g_lconst (z := 0) hx hb dX2_release_27 (by decide) ?_
          refine g_lret hx hb hr hlk hK hM dX2_release_28 ?_
          by_cases hro0 : P (13 + 4 * e) = 0
          case neg => exfalso; omega
          have hv : sRel P e = 0 := by unfold sRel; rw [if_neg (by omega), if_neg (by omega)]
          refine ⟨by rw [hv], ?_, fun q hq => rfl⟩
          rw [hv, show pu P (11 + 4 * e) (P (11 + 4 * e) - 0) = P from by funext j; simp only [pu]; split <;> simp_all]
          exact ⟨hE0, hE1, hE2, hE3, hE4⟩

def po_X2_append (g : gE) (f : gF) (h : Nat) (P : Nat → Int) (c0 : Nat) (a b : Int) : Int32 → gF → Prop := fun r f1 => r = zI c0 ∧ envAt g f1 h (sAppE P c0 a b) ∧ ∀ q, (q < h ∨ h + 5 ≤ q) → f1 q = f q
set_option maxRecDepth 100000 in
set_option maxHeartbeats 4000000 in
/-- append(cap, rollover) where there is room -/
theorem c_X2_append (l : Launch) (g : gE) (b0 n : Nat) (f : gF) (h : Nat) (P : Nat → Int) (c0 : Nat) (a b : Int) (hE : envAt g f h P) (hrg : b0 ≤ h ∧ h + 5 ≤ b0 + n) (hc0 : P 7 = c0) (hcl : c0 < 10) : cI l yX2_append cX2_append 4 (some .int) 0 0 [.ref h, .int (zI a), .int (zI b)] g b0 n f (po_X2_append g f h P c0 a b) := by
  refine gs_i (cc := cX2_append) (maxL := 4) (ret := (some .int)) (by decide) (Nat.le_of_ble_eq_true rfl) ?_
  intro p e0 s m args below meth c ls hx hb hr hml hown hts hlk hK hM hl
  have hl : lv_has ls 4 [(0, .ref h), (1, .int (zI a)), (2, .int (zI b))] := hl
  obtain ⟨hE0, hE1, hE2, hE3, hE4⟩ := hE
  rw [hc0] at hE0
  refine lv_aload_n hx hb dX2_append_0 rfl (lv_at hl 0 rfl) ?_
  refine g_get (ci := 4) (v := .int (zI (↑c0 : Int))) (C := RX2) (T := TX2) (N := 5) hx hb hts iU_X2 hown hK hM ⟨by omega, by omega⟩ hE0 rfl 4 (by decide) (hts _ u_60) (fun _ h9 => h9) rfl dX2_append_1 ?_
  refine lv_istore_n (lv' := [(3, .int (zI (↑c0 : Int))), (0, .ref h), (1, .int (zI a)), (2, .int (zI b))]) hx hb dX2_append_4 rfl hl (by decide) rfl (fun ls hl => ?_)
  refine lv_iload_n hx hb dX2_append_5 rfl (lv_at hl 0 rfl) ?_
  refine g_if_lt (tgt := 15) hx hb dX2_append_6 (by decide) ⟨by omega, by omega⟩ (fun c6 => ?_) (fun c6 => ?_)
  · skip
    refine lv_iload_n hx hb dX2_append_15 rfl (lv_at hl 0 rfl) ?_
    refine g_iret hx hb hr hlk hK hM dX2_append_16 ?_
    exfalso; omega
  · skip
    refine lv_iload_n hx hb dX2_append_9 rfl (lv_at hl 0 rfl) ?_
    refine g_bipush hx hb dX2_append_10 (by decide) ?_
    refine g_icmp_lt (tgt := 17) hx hb dX2_append_12 (by decide) ⟨by omega, by omega⟩ (by decide) (fun c12 => ?_) (fun c12 => ?_)
    · skip
      refine lv_aload_n hx hb dX2_append_17 rfl (lv_at hl 1 rfl) ?_
      refine g_get (ci := 4) (v := .ref (h + 1)) (C := RX2) (T := TX2) (N := 5) hx hb hts iU_X2 hown hK hM ⟨by omega, by omega⟩ hE0 rfl 0 (by decide) (hts _ u_56) (fun _ h9 => h9) rfl dX2_append_18 ?_
      refine lv_iload_n hx hb dX2_append_21 rfl (lv_at hl 0 rfl) ?_
      refine g_lconst (z := 0) hx hb dX2_append_22 (by decide) ?_
      refine g_last hx hb hK hM ⟨by omega, by omega⟩ hE1 (by omega) (by omega) (by decide) dX2_append_23 (fun f1 H locs hM ha3 o2 => ?_)
      refine lv_aload_n hx hb dX2_append_24 rfl (lv_at hl 1 rfl) ?_
      have hf4 : f1 (h) = .inr (4, [.ref (h + 1), .ref (h + 2), .ref (h + 3), .ref (h + 4), .int (zI (↑c0 : Int))]) := (o2 (h) (by omega)).trans hE0
      refine g_get (ci := 4) (v := .ref (h + 2)) (C := RX2) (T := TX2) (N := 5) hx hb hts iU_X2 hown hK hM ⟨by omega, by omega⟩ hf4 rfl 1 (by decide) (hts _ u_57) (fun _ h9 => h9) rfl dX2_append_25 ?_
      refine lv_iload_n hx hb dX2_append_28 rfl (lv_at hl 0 rfl) ?_
      refine lv_iload_n hx hb dX2_append_29 rfl (lv_at hl 2 rfl) ?_
      have hf5 := hE2.kept (o2 (h + 2) (by omega))
      refine g_iast hx hb hK hM ⟨by omega, by omega⟩ hf5 (by omega) (by omega) (by decide) dX2_append_30 (fun f6 H locs hM ha8 o7 => ?_)
      refine lv_aload_n hx hb dX2_append_31 rfl (lv_at hl 1 rfl) ?_
      have hf9 : f6 (h) = .inr (4, [.ref (h + 1), .ref (h + 2), .ref (h + 3), .ref (h + 4), .int (zI (↑c0 : Int))]) := (o7 (h) (by omega)).trans hf4
      refine g_get (ci := 4) (v := .ref (h + 3)) (C := RX2) (T := TX2) (N := 5) hx hb hts iU_X2 hown hK hM ⟨by omega, by omega⟩ hf9 rfl 2 (by decide) (hts _ u_58) (fun _ h9 => h9) rfl dX2_append_32 ?_
      refine lv_iload_n hx hb dX2_append_35 rfl (lv_at hl 0 rfl) ?_
      refine lv_iload_n hx hb dX2_append_36 rfl (lv_at hl 3 rfl) ?_
      have hf10 := hE3.kept ((o7 (h + 3) (by omega)).trans (o2 (h + 3) (by omega)))
      refine g_iast hx hb hK hM ⟨by omega, by omega⟩ hf10 (by omega) (by omega) (by decide) dX2_append_37 (fun f11 H locs hM ha13 o12 => ?_)
      refine lv_aload_n hx hb dX2_append_38 rfl (lv_at hl 1 rfl) ?_
      have hf14 : f11 (h) = .inr (4, [.ref (h + 1), .ref (h + 2), .ref (h + 3), .ref (h + 4), .int (zI (↑c0 : Int))]) := (o12 (h) (by omega)).trans hf9
      refine g_get (ci := 4) (v := .ref (h + 4)) (C := RX2) (T := TX2) (N := 5) hx hb hts iU_X2 hown hK hM ⟨by omega, by omega⟩ hf14 rfl 3 (by decide) (hts _ u_59) (fun _ h9 => h9) rfl dX2_append_39 ?_
      refine lv_iload_n hx hb dX2_append_42 rfl (lv_at hl 0 rfl) ?_
      refine g_lconst (z := 0) hx hb dX2_append_43 (by decide) ?_
      have hf15 := hE4.kept ((o12 (h + 4) (by omega)).trans ((o7 (h + 4) (by omega)).trans (o2 (h + 4) (by omega))))
      refine g_last hx hb hK hM ⟨by omega, by omega⟩ hf15 (by omega) (by omega) (by decide) dX2_append_44 (fun f16 H locs hM ha18 o17 => ?_)
      refine lv_aload_n hx hb dX2_append_45 rfl (lv_at hl 1 rfl) ?_
      refine lv_dup hx hb dX2_append_46 rfl ?_
      have hf19 : f16 (h) = .inr (4, [.ref (h + 1), .ref (h + 2), .ref (h + 3), .ref (h + 4), .int (zI (↑c0 : Int))]) := (o17 (h) (by omega)).trans hf14
      refine g_get (ci := 4) (v := .int (zI (↑c0 : Int))) (C := RX2) (T := TX2) (N := 5) hx hb hts iU_X2 hown hK hM ⟨by omega, by omega⟩ hf19 rfl 4 (by decide) (hts _ u_60) (fun _ h9 => h9) rfl dX2_append_47 ?_
      refine g_iconst hx hb dX2_append_50 ?_
      refine g_iadd hx hb dX2_append_51 ?_
      refine g_put (ci := 4) (v := .int (zI ((↑c0 : Int) + 1))) (ty := .int) (C := RX2) (T := TX2) (N := 5) hx hb hts iU_X2 tyX2 tyX2_ok nmX2 hown hK hM ⟨by omega, by omega⟩ hf19 rfl 4 (by decide) (hts _ u_60) (fun _ h9 => h9) rfl (by decide +kernel) rfl rfl (Nat.le_of_ble_eq_true rfl) dX2_append_52 (fun f20 H locs hM hf22 o21 => ?_)
      have hf22 : f20 (h) = .inr (4, [.ref (h + 1), .ref (h + 2), .ref (h + 3), .ref (h + 4), .int (zI ((↑c0 : Int) + 1))]) := hf22
      refine lv_iload_n hx hb dX2_append_55 rfl (lv_at hl 0 rfl) ?_
      have hf23 := ha3.kept ((o21 (h + 1) (by omega)).trans ((o17 (h + 1) (by omega)).trans ((o12 (h + 1) (by omega)).trans (o7 (h + 1) (by omega)))))
      have hf24 := ha8.kept ((o21 (h + 2) (by omega)).trans ((o17 (h + 2) (by omega)).trans (o12 (h + 2) (by omega))))
      have hf25 := ha13.kept ((o21 (h + 3) (by omega)).trans (o17 (h + 3) (by omega)))
      have hf26 := ha18.kept (o21 (h + 4) (by omega))
      refine g_iret hx hb hr hlk hK hM dX2_append_56 ?_
      exact ⟨rfl, ⟨hf22.trans (by simp only [sAppE, pu, ↓reduceIte] <;> (repeat' split) <;> first | rfl | omega | (congr 1; omega) | (congr 2; omega)), hf23.cong (fun k hk => by simp only [sAppE, pu, ↓reduceIte] <;> (repeat' split) <;> first | rfl | omega | (congr 1; omega) | (congr 2; omega)), hf24.cong (fun k hk => by simp only [sAppE, pu, ↓reduceIte] <;> (repeat' split) <;> first | rfl | omega | (congr 1; omega) | (congr 2; omega)), hf25.cong (fun k hk => by simp only [sAppE, pu, ↓reduceIte] <;> (repeat' split) <;> first | rfl | omega | (congr 1; omega) | (congr 2; omega)), hf26.cong (fun k hk => by simp only [sAppE, pu, ↓reduceIte] <;> (repeat' split) <;> first | rfl | omega | (congr 1; omega) | (congr 2; omega))⟩, (fun q hq => ((o21 (q) (by omega)).trans ((o17 (q) (by omega)).trans ((o12 (q) (by omega)).trans ((o7 (q) (by omega)).trans (o2 (q) (by omega)))))))⟩
    · skip
      refine lv_iload_n hx hb dX2_append_15 rfl (lv_at hl 0 rfl) ?_
      refine g_iret hx hb hr hlk hK hM dX2_append_16 ?_
      exfalso; omega

def po_X2_changeCap (g : gE) (f : gF) (h : Nat) (P : Nat → Int) (e : Nat) (a : Int) : Int32 → gF → Prop := fun r f1 => r = zI (P (12 + 4 * e)) ∧ envAt g f1 h (pu P (12 + 4 * e) a) ∧ ∀ q, (q < h ∨ h + 5 ≤ q) → f1 q = f q
set_option maxRecDepth 100000 in
set_option maxHeartbeats 4000000 in
/-- changeCap, a valid e -/
theorem c_X2_changeCap (l : Launch) (g : gE) (b0 n : Nat) (f : gF) (h : Nat) (P : Nat → Int) (e : Nat) (a : Int) (hE : envAt g f h P) (hrg : b0 ≤ h ∧ h + 5 ≤ b0 + n) (hcn : 0 ≤ P 7 ∧ P 7 ≤ 10) (he : (e : Int) < P 7) : cI l yX2_changeCap cX2_changeCap 4 (some .int) 1 21 [.ref h, .int (zI (↑e : Int)), .int (zI a)] g b0 n f (po_X2_changeCap g f h P e a) := by
  refine gs_i (cc := cX2_changeCap) (maxL := 4) (ret := (some .int)) (by decide) (Nat.le_of_ble_eq_true rfl) ?_
  intro p e0 s m args below meth c ls hx hb hr hml hown hts hlk hK hM hl
  have hl : lv_has ls 4 [(0, .ref h), (1, .int (zI (↑e : Int))), (2, .int (zI a))] := hl
  have hE9 := hE
  obtain ⟨hE0, hE1, hE2, hE3, hE4⟩ := hE
  have hzn := hcn.1
  have hzm := hcn.2
  have hen : e < 10 := by omega
  refine lv_aload_n hx hb dX2_changeCap_0 rfl (lv_at hl 0 rfl) ?_
  refine lv_iload_n hx hb dX2_changeCap_1 rfl (lv_at hl 1 rfl) ?_
  have hC1 := c_X2_has l g b0 n f h P (↑e : Int) hE9 hrg hcn ⟨by omega, by omega⟩
  refine g_callVi (ci := 4) (C := RX2) (T := TX2) (N := 5) (As := [.int (zI (↑e : Int))]) (rest := []) ⟨hx, hb, hml, hown, hts⟩ hK hM hC1 (cuV (n := 1) hts u_382 u_444 u_5 (by decide) u_380 u_381 ⟨Nat.le_of_ble_eq_true rfl, Nat.le_of_ble_eq_true rfl⟩) ⟨by omega, by omega⟩ hE0 rfl rfl hl.1 rfl (Nat.le_of_ble_eq_true rfl) dX2_changeCap_2 ⟨Nat.zero_le _, Nat.zero_le _⟩ (fun r2 f2 H locs hM hp3 => ?_)
  obtain ⟨rfl, rfl⟩ := hp3
  refine g_ifb_ne (tgt := 10) hx hb dX2_changeCap_5 (by decide) (fun c5 => ?_) (fun c5 => ?_)
  · skip
    refine lv_aload_n hx hb dX2_changeCap_10 rfl (lv_at hl 0 rfl) ?_
    refine g_get (ci := 4) (v := .ref (h + 2)) (C := RX2) (T := TX2) (N := 5) hx hb hts iU_X2 hown hK hM ⟨by omega, by omega⟩ hE0 rfl 1 (by decide) (hts _ u_57) (fun _ h9 => h9) rfl dX2_changeCap_11 ?_
    refine lv_iload_n hx hb dX2_changeCap_14 rfl (lv_at hl 1 rfl) ?_
    refine g_iald hx hb hK hM ⟨by omega, by omega⟩ hE2 (by omega) (by omega) (by decide) dX2_changeCap_15 ?_
    show W _ _ _ _ _ _ _ _ _ _ _ _ _ _ _ (F0 _ _ _ (.int (zI (P (12 + 4 * e))) :: _))
    refine lv_istore_n (lv' := [(3, .int (zI (P (12 + 4 * e)))), (0, .ref h), (1, .int (zI (↑e : Int))), (2, .int (zI a))]) hx hb dX2_changeCap_16 rfl hl (by decide) rfl (fun ls hl => ?_)
    refine lv_aload_n hx hb dX2_changeCap_17 rfl (lv_at hl 1 rfl) ?_
    refine g_get (ci := 4) (v := .ref (h + 2)) (C := RX2) (T := TX2) (N := 5) hx hb hts iU_X2 hown hK hM ⟨by omega, by omega⟩ hE0 rfl 1 (by decide) (hts _ u_57) (fun _ h9 => h9) rfl dX2_changeCap_18 ?_
    refine lv_iload_n hx hb dX2_changeCap_21 rfl (lv_at hl 2 rfl) ?_
    refine lv_iload_n hx hb dX2_changeCap_22 rfl (lv_at hl 3 rfl) ?_
    refine g_iast hx hb hK hM ⟨by omega, by omega⟩ hE2 (by omega) (by omega) (by decide) dX2_changeCap_23 (fun f4 H locs hM ha6 o5 => ?_)
    refine lv_iload_n hx hb dX2_changeCap_24 rfl (lv_at hl 0 rfl) ?_
    have hf7 : f4 (h) = .inr (4, [.ref (h + 1), .ref (h + 2), .ref (h + 3), .ref (h + 4), .int (zI (P 7))]) := (o5 (h) (by omega)).trans hE0
    have hf8 := hE1.kept (o5 (h + 1) (by omega))
    have hf9 := hE3.kept (o5 (h + 3) (by omega))
    have hf10 := hE4.kept (o5 (h + 4) (by omega))
    refine g_iret hx hb hr hlk hK hM dX2_changeCap_25 ?_
    exact ⟨rfl, ⟨hf7.trans (by simp only [pu, ↓reduceIte] <;> (repeat' split) <;> first | rfl | omega | (congr 1; omega) | (congr 2; omega)), hf8.cong (fun k hk => by simp only [pu, ↓reduceIte] <;> (repeat' split) <;> first | rfl | omega | (congr 1; omega) | (congr 2; omega)), ha6.cong (fun k hk => by simp only [pu, ↓reduceIte] <;> (repeat' split) <;> first | rfl | omega | (congr 1; omega) | (congr 2; omega)), hf9.cong (fun k hk => by simp only [pu, ↓reduceIte] <;> (repeat' split) <;> first | rfl | omega | (congr 1; omega) | (congr 2; omega)), hf10.cong (fun k hk => by simp only [pu, ↓reduceIte] <;> (repeat' split) <;> first | rfl | omega | (congr 1; omega) | (congr 2; omega))⟩, (fun q hq => (o5 (q) (by omega)))⟩
  · skip
    refine g_iconst hx hb dX2_changeCap_8 ?_
    refine g_iret hx hb hr hlk hK hM dX2_changeCap_9 ?_
    exfalso; omega

def po_X2_changeRollover (g : gE) (f : gF) (h : Nat) (P : Nat → Int) (e : Nat) (a : Int) : Int32 → gF → Prop := fun r f1 => r = zI (P (13 + 4 * e)) ∧ envAt g f1 h (pu P (13 + 4 * e) a) ∧ ∀ q, (q < h ∨ h + 5 ≤ q) → f1 q = f q
set_option maxRecDepth 100000 in
set_option maxHeartbeats 4000000 in
/-- changeRollover, a valid e -/
theorem c_X2_changeRollover (l : Launch) (g : gE) (b0 n : Nat) (f : gF) (h : Nat) (P : Nat → Int) (e : Nat) (a : Int) (hE : envAt g f h P) (hrg : b0 ≤ h ∧ h + 5 ≤ b0 + n) (hcn : 0 ≤ P 7 ∧ P 7 ≤ 10) (he : (e : Int) < P 7) : cI l yX2_changeRollover cX2_changeRollover 4 (some .int) 1 21 [.ref h, .int (zI (↑e : Int)), .int (zI a)] g b0 n f (po_X2_changeRollover g f h P e a) := by
  refine gs_i (cc := cX2_changeRollover) (maxL := 4) (ret := (some .int)) (by decide) (Nat.le_of_ble_eq_true rfl) ?_
  intro p e0 s m args below meth c ls hx hb hr hml hown hts hlk hK hM hl
  have hl : lv_has ls 4 [(0, .ref h), (1, .int (zI (↑e : Int))), (2, .int (zI a))] := hl
  have hE9 := hE
  obtain ⟨hE0, hE1, hE2, hE3, hE4⟩ := hE
  have hzn := hcn.1
  have hzm := hcn.2
  have hen : e < 10 := by omega
  refine lv_aload_n hx hb dX2_changeRollover_0 rfl (lv_at hl 0 rfl) ?_
  refine lv_iload_n hx hb dX2_changeRollover_1 rfl (lv_at hl 1 rfl) ?_
  have hC1 := c_X2_has l g b0 n f h P (↑e : Int) hE9 hrg hcn ⟨by omega, by omega⟩
  refine g_callVi (ci := 4) (C := RX2) (T := TX2) (N := 5) (As := [.int (zI (↑e : Int))]) (rest := []) ⟨hx, hb, hml, hown, hts⟩ hK hM hC1 (cuV (n := 1) hts u_382 u_444 u_5 (by decide) u_380 u_381 ⟨Nat.le_of_ble_eq_true rfl, Nat.le_of_ble_eq_true rfl⟩) ⟨by omega, by omega⟩ hE0 rfl rfl hl.1 rfl (Nat.le_of_ble_eq_true rfl) dX2_changeRollover_2 ⟨Nat.zero_le _, Nat.zero_le _⟩ (fun r2 f2 H locs hM hp3 => ?_)
  obtain ⟨rfl, rfl⟩ := hp3
  refine g_ifb_ne (tgt := 10) hx hb dX2_changeRollover_5 (by decide) (fun c5 => ?_) (fun c5 => ?_)
  · skip
    refine lv_aload_n hx hb dX2_changeRollover_10 rfl (lv_at hl 0 rfl) ?_
    refine g_get (ci := 4) (v := .ref (h + 3)) (C := RX2) (T := TX2) (N := 5) hx hb hts iU_X2 hown hK hM ⟨by omega, by omega⟩ hE0 rfl 2 (by decide) (hts _ u_58) (fun _ h9 => h9) rfl dX2_changeRollover_11 ?_
    refine lv_iload_n hx hb dX2_changeRollover_14 rfl (lv_at hl 1 rfl) ?_
    refine g_iald hx hb hK hM ⟨by omega, by omega⟩ hE3 (by omega) (by omega) (by decide) dX2_changeRollover_15 ?_
    show W _ _ _ _ _ _ _ _ _ _ _ _ _ _ _ (F0 _ _ _ (.int (zI (P (13 + 4 * e))) :: _))
    refine lv_istore_n (lv' := [(3, .int (zI (P (13 + 4 * e)))), (0, .ref h), (1, .int (zI (↑e : Int))), (2, .int (zI a))]) hx hb dX2_changeRollover_16 rfl hl (by decide) rfl (fun ls hl => ?_)
    refine lv_aload_n hx hb dX2_changeRollover_17 rfl (lv_at hl 1 rfl) ?_
    refine g_get (ci := 4) (v := .ref (h + 3)) (C := RX2) (T := TX2) (N := 5) hx hb hts iU_X2 hown hK hM ⟨by omega, by omega⟩ hE0 rfl 2 (by decide) (hts _ u_58) (fun _ h9 => h9) rfl dX2_changeRollover_18 ?_
    refine lv_iload_n hx hb dX2_changeRollover_21 rfl (lv_at hl 2 rfl) ?_
    refine lv_iload_n hx hb dX2_changeRollover_22 rfl (lv_at hl 3 rfl) ?_
    refine g_iast hx hb hK hM ⟨by omega, by omega⟩ hE3 (by omega) (by omega) (by decide) dX2_changeRollover_23 (fun f4 H locs hM ha6 o5 => ?_)
    refine lv_iload_n hx hb dX2_changeRollover_24 rfl (lv_at hl 0 rfl) ?_
    have hf7 : f4 (h) = .inr (4, [.ref (h + 1), .ref (h + 2), .ref (h + 3), .ref (h + 4), .int (zI (P 7))]) := (o5 (h) (by omega)).trans hE0
    have hf8 := hE1.kept (o5 (h + 1) (by omega))
    have hf9 := hE2.kept (o5 (h + 2) (by omega))
    have hf10 := hE4.kept (o5 (h + 4) (by omega))
    refine g_iret hx hb hr hlk hK hM dX2_changeRollover_25 ?_
    exact ⟨rfl, ⟨hf7.trans (by simp only [pu, ↓reduceIte] <;> (repeat' split) <;> first | rfl | omega | (congr 1; omega) | (congr 2; omega)), hf8.cong (fun k hk => by simp only [pu, ↓reduceIte] <;> (repeat' split) <;> first | rfl | omega | (congr 1; omega) | (congr 2; omega)), hf9.cong (fun k hk => by simp only [pu, ↓reduceIte] <;> (repeat' split) <;> first | rfl | omega | (congr 1; omega) | (congr 2; omega)), ha6.cong (fun k hk => by simp only [pu, ↓reduceIte] <;> (repeat' split) <;> first | rfl | omega | (congr 1; omega) | (congr 2; omega)), hf10.cong (fun k hk => by simp only [pu, ↓reduceIte] <;> (repeat' split) <;> first | rfl | omega | (congr 1; omega) | (congr 2; omega))⟩, (fun q hq => (o5 (q) (by omega)))⟩
  · skip
    refine g_iconst hx hb dX2_changeRollover_8 ?_
    refine g_iret hx hb hr hlk hK hM dX2_changeRollover_9 ?_
    exfalso; omega
