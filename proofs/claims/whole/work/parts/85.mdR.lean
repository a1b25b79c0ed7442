def po_X9_sign (g : gE) (f : gF) (h : Nat) (Z In T : Nat → Int) (L a : Nat) (w : Int) : Int32 → gF → Prop := fun r f1 => r = zI (if w = 0 then nx T L a else -1) ∧ f = f1
set_option maxRecDepth 100000 in
set_option maxHeartbeats 1000000 in
/-- sign -/
theorem c_X9_sign (l : Launch) (g : gE) (b0 n : Nat) (f : gF) (h : Nat) (Z In T : Nat → Int) (L a : Nat) (w : Int) (hO : mdO f h (zR Z ↑L ↑a w)) (hrg : b0 ≤ h ∧ h + 13 ≤ b0 + n) (hIn : arI g f (h + 11) 60 In) (hTT : ∀ k, k < L → In k = T k) (hL : L ≤ 60) (htx : txOk T) (haL : a ≤ L) (hw : w = 0 ∨ w = 1) : cI l yX9_sign cX9_sign 1 (some .int) 0 0 [.ref h] g b0 n f (po_X9_sign g f h Z In T L a w) := by
  refine gs_i (cc := cX9_sign) (maxL := 1) (ret := (some .int)) (by decide) (Nat.le_of_ble_eq_true rfl) ?_
  intro p e0 s m args below meth c ls hx hb hr hml hown hts hlk hK hM hl
  have hl : lv_has ls 1 [(0, .ref h)] := hl
  refine lv_aload_n hx hb dX9_sign_0 rfl (lv_at hl 0 rfl) ?_
  refine g_get (ci := 11) (v := .int (zI w)) (C := RX9) (T := TX9) (N := 24) hx hb hts iU_X9 hown hK hM ⟨by omega, by omega⟩ hO rfl 22 (by decide) (hts _ u_1166) (fun _ h9 => h9) rfl dX9_sign_1 ?_
  refine g_if_ne (tgt := 30) hx hb dX9_sign_4 (by decide) ⟨by omega, by omega⟩ (fun c4 => ?_) (fun c4 => ?_)
  · skip
    refine g_iconst hx hb dX9_sign_30 ?_
    refine g_iret hx hb hr hlk hK hM dX9_sign_31 ?_
    refine ⟨congrArg zI ?_, rfl⟩
    unfold nx
    first | rw [if_neg (by omega)] | (rw [if_pos (by omega), if_neg (by omega)])
  · skip
    refine lv_aload_n hx hb dX9_sign_7 rfl (lv_at hl 0 rfl) ?_
    refine g_get (ci := 11) (v := .int (zI (↑a : Int))) (C := RX9) (T := TX9) (N := 24) hx hb hts iU_X9 hown hK hM ⟨by omega, by omega⟩ hO rfl 21 (by decide) (hts _ u_1165) (fun _ h9 => h9) rfl dX9_sign_8 ?_
    refine lv_aload_n hx hb dX9_sign_11 rfl (lv_at hl 0 rfl) ?_
    refine g_get (ci := 11) (v := .int (zI (↑L : Int))) (C := RX9) (T := TX9) (N := 24) hx hb hts iU_X9 hown hK hM ⟨by omega, by omega⟩ hO rfl 20 (by decide) (hts _ u_1164) (fun _ h9 => h9) rfl dX9_sign_12 ?_
    refine g_icmp_ge (tgt := 30) hx hb dX9_sign_15 (by decide) ⟨by omega, by omega⟩ ⟨by omega, by omega⟩ (fun c15 => ?_) (fun c15 => ?_)
    · skip
      refine g_iconst hx hb dX9_sign_30 ?_
      refine g_iret hx hb hr hlk hK hM dX9_sign_31 ?_
      refine ⟨congrArg zI ?_, rfl⟩
      unfold nx
      first | rw [if_neg (by omega)] | (rw [if_pos (by omega), if_neg (by omega)])
    · skip
      refine lv_aload_n hx hb dX9_sign_18 rfl (lv_at hl 0 rfl) ?_
      refine g_get (ci := 11) (v := .ref (h + 11)) (C := RX9) (T := TX9) (N := 24) hx hb hts iU_X9 hown hK hM ⟨by omega, by omega⟩ hO rfl 19 (by decide) (hts _ u_1163) (fun _ h9 => h9) rfl dX9_sign_19 ?_
      refine lv_aload_n hx hb dX9_sign_22 rfl (lv_at hl 0 rfl) ?_
      refine g_get (ci := 11) (v := .int (zI (↑a : Int))) (C := RX9) (T := TX9) (N := 24) hx hb hts iU_X9 hown hK hM ⟨by omega, by omega⟩ hO rfl 21 (by decide) (hts _ u_1165) (fun _ h9 => h9) rfl dX9_sign_23 ?_
      refine g_iald hx hb hK hM ⟨by omega, by omega⟩ hIn (by omega) (by omega) (by decide) dX9_sign_26 ?_
      show W _ _ _ _ _ _ _ _ _ _ _ _ _ _ _ (F0 _ _ _ (.int (zI (In a)) :: _))
      refine lv_goto (tgt := 31) hx hb dX9_sign_27 (by decide) ?_
      refine g_iret hx hb hr hlk hK hM dX9_sign_31 ?_
      refine ⟨congrArg zI ?_, rfl⟩
      unfold nx
      rw [if_pos (by omega), if_pos (by omega)]
      exact hTT a (by omega)

def po_X9_takes (g : gE) (f : gF) (h : Nat) (Z In T : Nat → Int) (L a : Nat) (w cv : Int) : gF → Prop := fun f1 => (w = 0 ∧ nx T L a = cv ∧ mdO f1 h (zR Z ↑L (↑a + 1) w) ∧ ∀ q, q ≠ h → f1 q = f q) ∨ (¬ (w = 0 ∧ nx T L a = cv) ∧ mdO f1 h (zR Z ↑L ↑a 1) ∧ ∀ q, q ≠ h → f1 q = f q)
set_option maxRecDepth 100000 in
set_option maxHeartbeats 1000000 in
/-- takes -/
theorem c_X9_takes (l : Launch) (g : gE) (b0 n : Nat) (f : gF) (h : Nat) (Z In T : Nat → Int) (L a : Nat) (w cv : Int) (hO : mdO f h (zR Z ↑L ↑a w)) (hrg : b0 ≤ h ∧ h + 13 ≤ b0 + n) (hIn : arI g f (h + 11) 60 In) (hTT : ∀ k, k < L → In k = T k) (hL : L ≤ 60) (htx : txOk T) (haL : a ≤ L) (hw : w = 0 ∨ w = 1) (hcv : 0 ≤ cv ∧ cv < 65536) : cV l yX9_takes cX9_takes 2 none 1 20 [.ref h, .int (zI cv)] g b0 n f (po_X9_takes g f h Z In T L a w cv) := by
  refine gs_v (cc := cX9_takes) (maxL := 2) (ret := none) (by decide) (Nat.le_of_ble_eq_true rfl) ?_
  intro p e0 s m args below meth c ls hx hb hr hml hown hts hlk hK hM hl
  have hl : lv_has ls 2 [(0, .ref h), (1, .int (zI cv))] := hl
  have hcv1 := hcv.1
  have hcv2 := hcv.2
  refine lv_aload_n hx hb dX9_takes_0 rfl (lv_at hl 0 rfl) ?_
  have hC1 := c_X9_sign l g b0 n f h Z In T L a w hO hrg hIn hTT hL htx (by omega) hw
  refine g_callVi (ci := 11) (C := RX9) (T := TX9) (N := 24) (As := []) (rest := []) ⟨hx, hb, hml, hown, hts⟩ hK hM hC1 (cuV (n := 0) hts u_1565 u_1562 u_10 (by decide) u_1564 us_69 ⟨Nat.le_of_ble_eq_true rfl, Nat.le_of_ble_eq_true rfl⟩) ⟨by omega, by omega⟩ hO rfl rfl hl.1 rfl (Nat.le_of_ble_eq_true rfl) dX9_takes_1 ⟨Nat.zero_le _, Nat.zero_le _⟩ (fun r1 f2 H locs hM hp3 => ?_)
  obtain ⟨rfl, rfl⟩ := hp3
  have hsg := nx_in (T := T) (L := L) (a := a) htx
  refine lv_iload_n hx hb dX9_takes_4 rfl (lv_at hl 1 rfl) ?_
  refine g_icmp_ne (tgt := 21) hx hb dX9_takes_5 (by decide) (by split <;> exact ⟨by omega, by omega⟩) ⟨by omega, by omega⟩ (fun c5 => ?_) (fun c5 => ?_)
  · skip
    refine lv_aload_n hx hb dX9_takes_21 rfl (lv_at hl 0 rfl) ?_
    refine g_iconst hx hb dX9_takes_22 ?_
    refine g_put (ci := 11) (v := .int (zI 1)) (ty := .boolean) (C := RX9) (T := TX9) (N := 24) hx hb hts iU_X9 tyX9 tyX9_ok nmX9 hown hK hM ⟨by omega, by omega⟩ hO rfl 22 (by decide) (hts _ u_1166) (fun _ h9 => h9) rfl (by decide +kernel) (by decide) (by decide) (Nat.le_of_ble_eq_true rfl) dX9_takes_23 (fun f4 H locs hM hf6 o5 => ?_)
    have hf6 : f4 (h) = .inr (11, [.int (zI (Z 0)), .ref (h + 1), .ref (h + 2), .ref (h + 3), .ref (h + 4), .ref (h + 5), .ref (h + 6), .ref (h + 7), .ref (h + 8), .int (zI (Z 9)), .int (zI (Z 10)), .int (zI (Z 11)), .int (zI (Z 12)), .int (zI (Z 13)), .int (zI (Z 14)), .int (zI (Z 15)), .int (zI (Z 16)), .ref (h + 9), .ref (h + 10), .ref (h + 11), .int (zI (↑L : Int)), .int (zI (↑a : Int)), .int (zI 1), .ref (h + 12)]) := hf6
    refine g_vret hx hb hr hlk hK hM dX9_takes_26 ?_
    exact Or.inr ⟨fun hh => c5 (by rw [if_pos hh.1]; exact hh.2), hf6, (fun q hq => (o5 (q) (by omega)))⟩
  · skip
    refine lv_aload_n hx hb dX9_takes_8 rfl (lv_at hl 0 rfl) ?_
    refine lv_dup hx hb dX9_takes_9 rfl ?_
    refine g_get (ci := 11) (v := .int (zI (↑a : Int))) (C := RX9) (T := TX9) (N := 24) hx hb hts iU_X9 hown hK hM ⟨by omega, by omega⟩ hO rfl 21 (by decide) (hts _ u_1165) (fun _ h9 => h9) rfl dX9_takes_10 ?_
    refine g_iconst hx hb dX9_takes_13 ?_
    refine g_iadd hx hb dX9_takes_14 ?_
    refine g_put (ci := 11) (v := .int (zI ((↑a : Int) + 1))) (ty := .int) (C := RX9) (T := TX9) (N := 24) hx hb hts iU_X9 tyX9 tyX9_ok nmX9 hown hK hM ⟨by omega, by omega⟩ hO rfl 21 (by decide) (hts _ u_1165) (fun _ h9 => h9) rfl (by decide +kernel) rfl rfl (Nat.le_of_ble_eq_true rfl) dX9_takes_15 (fun f7 H locs hM hf9 o8 => ?_)
    have hf9 : f7 (h) = .inr (11, [.int (zI (Z 0)), .ref (h + 1), .ref (h + 2), .ref (h + 3), .ref (h + 4), .ref (h + 5), .ref (h + 6), .ref (h + 7), .ref (h + 8), .int (zI (Z 9)), .int (zI (Z 10)), .int (zI (Z 11)), .int (zI (Z 12)), .int (zI (Z 13)), .int (zI (Z 14)), .int (zI (Z 15)), .int (zI (Z 16)), .ref (h + 9), .ref (h + 10), .ref (h + 11), .int (zI (↑L : Int)), .int (zI ((↑a : Int) + 1)), .int (zI w), .ref (h + 12)]) := hf9
    refine lv_goto (tgt := 26) hx hb dX9_takes_18 (by decide) ?_
    refine g_vret hx hb hr hlk hK hM dX9_takes_26 ?_
    have hw0 : w = 0 := by rcases hw with q | q; exact q; rw [q, if_neg (by decide)] at c5; omega
    subst hw0
    rw [if_pos rfl] at c5
    exact Or.inl ⟨rfl, c5, hf9, (fun q hq => (o8 (q) (by omega)))⟩

def po_X9_number (g : gE) (f : gF) (h : Nat) (Z In T : Nat → Int) (L a : Nat) (mm : Nat) : Int32 → gF → Prop := fun r f1 => (a < (sNum T L mm a 0).1 ∧ r = zI (sNum T L mm a 0).2 ∧ mdO f1 h (zR Z ↑L ↑(sNum T L mm a 0).1 0) ∧ ∀ q, q ≠ h → f1 q = f q) ∨ ((sNum T L mm a 0).1 = a ∧ mdO f1 h (zR Z ↑L ↑a 1) ∧ ∀ q, q ≠ h → f1 q = f q)
set_option maxRecDepth 100000 in
set_option maxHeartbeats 1000000 in
/-- number -/
theorem c_X9_number (l : Launch) (g : gE) (b0 n : Nat) (f : gF) (h : Nat) (Z In T : Nat → Int) (L a : Nat) (mm : Nat) (hO : mdO f h (zR Z ↑L ↑a 0)) (hrg : b0 ≤ h ∧ h + 13 ≤ b0 + n) (hIn : arI g f (h + 11) 60 In) (hTT : ∀ k, k < L → In k = T k) (hL : L ≤ 60) (htx : txOk T) (haL : a ≤ L) (hm7 : mm ≤ 7) (hm1 : 1 ≤ mm) : cI l yX9_number cX9_number 4 (some .int) 1 25 [.ref h, .int (zI (↑mm : Int))] g b0 n f (po_X9_number g f h Z In T L a mm) := by
  refine gs_i (cc := cX9_number) (maxL := 4) (ret := (some .int)) (by decide) (Nat.le_of_ble_eq_true rfl) ?_
  intro p e0 s m args below meth c ls hx hb hr hml hown hts hlk hK hM hl
  have hl : lv_has ls 4 [(0, .ref h), (1, .int (zI (↑mm : Int)))] := hl
  refine g_iconst hx hb dX9_number_0 ?_
  refine lv_istore_n (lv' := [(2, .int (zI 0)), (0, .ref h), (1, .int (zI (↑mm : Int)))]) hx hb dX9_number_1 rfl hl (by decide) rfl (fun ls hl => ?_)
  refine g_iconst hx hb dX9_number_2 ?_
  refine lv_istore_n (lv' := [(3, .int (zI 0)), (2, .int (zI 0)), (0, .ref h), (1, .int (zI (↑mm : Int)))]) hx hb dX9_number_3 rfl hl (by decide) rfl (fun ls hl => ?_)
  have lp4 : ∀ (k : Nat), ∀ (i : Nat) (v : Int) (fL : gF) (H : Heap) (locs : List Loc) (ls : Array Slot), (mm - i < k) → (i ≤ mm) → (a + i ≤ L) → (sNum T L mm a 0 = sNum T L (mm - i) (a + i) v) → (∀ q, q ≠ h → fL q = f q) → gH g b0 n fL s.heap H locs → (mdO fL h (zR Z ↑L ↑(a + i) 0)) → (arI g fL (h + 11) 60 In) → lv_has ls 4 [(0, .ref h), (1, .int (zI (↑mm : Int))), (2, .int (zI v)), (3, .int (zI (↑i : Int)))] → W p l e0 { frames := 1, cells := 0, slots := 0, locals := 25 } s m args below meth c H locs 0 0 (MQ below (va_Qi (po_X9_number g f h Z In T L a mm) (gB g b0 n) (gA b0)) args s 0 0 (gA b0)) (F0 m 4 ls []) := by
    intro k
    induction k with
    | zero =>
      intro i v fL H locs ls hk hi haiL hst hfr hM hL0 hL1 hl
      exact absurd hk (Nat.not_lt_zero _)
    | succ k ih4 =>
      intro i v fL H locs ls hk hi haiL hst hfr hM hL0 hL1 hl
      refine lv_iload_n hx hb dX9_number_4 rfl (lv_at hl 3 rfl) ?_
      refine lv_iload_n hx hb dX9_number_5 rfl (lv_at hl 1 rfl) ?_
      refine g_icmp_ge (tgt := 55) hx hb dX9_number_6 (by decide) ⟨by omega, by omega⟩ ⟨by omega, by omega⟩ (fun c6 => ?_) (fun c6 => ?_)
      · skip
        have hend : i = mm ∨ ¬ dg T L (a + i) := by omega
        refine lv_aload_n hx hb dX9_number_55 rfl (lv_at hl 0 rfl) ?_
        refine lv_dup hx hb dX9_number_56 rfl ?_
        refine g_get (ci := 11) (v := .int (zI 0)) (C := RX9) (T := TX9) (N := 24) hx hb hts iU_X9 hown hK hM ⟨by omega, by omega⟩ hL0 rfl 22 (by decide) (hts _ u_1166) (fun _ h9 => h9) rfl dX9_number_57 ?_
        refine lv_iload_n hx hb dX9_number_60 rfl (lv_at hl 3 rfl) ?_
        refine g_if_ne (tgt := 68) hx hb dX9_number_61 (by decide) ⟨by omega, by omega⟩ (fun c61 => ?_) (fun c61 => ?_)
        · skip
          refine g_iconst hx hb dX9_number_68 ?_
          refine g_iorL (z1 := 0) (z2 := 0) (z3 := 0) hx hb dX9_number_69 (by decide) ?_
          refine g_put (ci := 11) (v := .int (zI 0)) (ty := .boolean) (C := RX9) (T := TX9) (N := 24) hx hb hts iU_X9 tyX9 tyX9_ok nmX9 hown hK hM ⟨by omega, by omega⟩ hL0 rfl 22 (by decide) (hts _ u_1166) (fun _ h9 => h9) rfl (by decide +kernel) (by decide) (by decide) (Nat.le_of_ble_eq_true rfl) dX9_number_70 (fun f1 H locs hM hf3 o2 => ?_)
          have hf3 : f1 (h) = .inr (11, [.int (zI (Z 0)), .ref (h + 1), .ref (h + 2), .ref (h + 3), .ref (h + 4), .ref (h + 5), .ref (h + 6), .ref (h + 7), .ref (h + 8), .int (zI (Z 9)), .int (zI (Z 10)), .int (zI (Z 11)), .int (zI (Z 12)), .int (zI (Z 13)), .int (zI (Z 14)), .int (zI (Z 15)), .int (zI (Z 16)), .ref (h + 9), .ref (h + 10), .ref (h + 11), .int (zI (↑L : Int)), .int (zI (↑(a + i) : Int)), .int (zI 0), .ref (h + 12)]) := hf3
          refine lv_iload_n hx hb dX9_number_73 rfl (lv_at hl 2 rfl) ?_
          refine g_iret hx hb hr hlk hK hM dX9_number_74 ?_
          have hq9 : sNum T L mm a 0 = (a + i, v) := by
            rw [hst]
            rcases hend with q | q
            · rw [q, Nat.sub_self]; rfl
            · cases hm9 : mm - i with
              | zero => rfl
              | succ k8 => unfold sNum; rw [if_neg q]
          refine Or.inl ⟨by rw [hq9]; show a < a + i; omega, by rw [hq9], by rw [hq9]; exact hf3, (fun q hq => ((o2 (q) (by omega)).trans (hfr (q) (by omega))))⟩
        · skip
          refine g_iconst hx hb dX9_number_64 ?_
          refine lv_goto (tgt := 69) hx hb dX9_number_65 (by decide) ?_
          refine g_iorL (z1 := 0) (z2 := 1) (z3 := 1) hx hb dX9_number_69 (by decide) ?_
          refine g_put (ci := 11) (v := .int (zI 1)) (ty := .boolean) (C := RX9) (T := TX9) (N := 24) hx hb hts iU_X9 tyX9 tyX9_ok nmX9 hown hK hM ⟨by omega, by omega⟩ hL0 rfl 22 (by decide) (hts _ u_1166) (fun _ h9 => h9) rfl (by decide +kernel) (by decide) (by decide) (Nat.le_of_ble_eq_true rfl) dX9_number_70 (fun f4 H locs hM hf6 o5 => ?_)
          have hf6 : f4 (h) = .inr (11, [.int (zI (Z 0)), .ref (h + 1), .ref (h + 2), .ref (h + 3), .ref (h + 4), .ref (h + 5), .ref (h + 6), .ref (h + 7), .ref (h + 8), .int (zI (Z 9)), .int (zI (Z 10)), .int (zI (Z 11)), .int (zI (Z 12)), .int (zI (Z 13)), .int (zI (Z 14)), .int (zI (Z 15)), .int (zI (Z 16)), .ref (h + 9), .ref (h + 10), .ref (h + 11), .int (zI (↑L : Int)), .int (zI (↑(a + i) : Int)), .int (zI 1), .ref (h + 12)]) := hf6
          refine lv_iload_n hx hb dX9_number_73 rfl (lv_at hl 2 rfl) ?_
          refine g_iret hx hb hr hlk hK hM dX9_number_74 ?_
          have hq9 : sNum T L mm a 0 = (a + i, v) := by
            rw [hst]
            rcases hend with q | q
            · rw [q, Nat.sub_self]; rfl
            · cases hm9 : mm - i with
              | zero => rfl
              | succ k8 => unfold sNum; rw [if_neg q]
          have hi0 : i = 0 := by omega
          have h7 := hf6
          have h8 : ((a + i : Nat) : Int) = ↑a := by omega
          rw [h8] at h7
          exact Or.inr ⟨by rw [hq9]; show a + i = a; omega, h7, (fun q hq => ((o5 (q) (by omega)).trans (hfr (q) (by omega))))⟩
      · skip
        refine lv_aload_n hx hb dX9_number_9 rfl (lv_at hl 0 rfl) ?_
        have hC7 := c_X9_sign l g b0 n fL h Z In T L (a + i) 0 hL0 hrg hL1 hTT hL htx (by omega) (by decide)
        refine g_callVi (ci := 11) (C := RX9) (T := TX9) (N := 24) (As := []) (rest := []) ⟨hx, hb, hml, hown, hts⟩ hK hM hC7 (cuV (n := 0) hts u_1565 u_1562 u_10 (by decide) u_1564 us_69 ⟨Nat.le_of_ble_eq_true rfl, Nat.le_of_ble_eq_true rfl⟩) ⟨by omega, by omega⟩ hL0 rfl rfl hl.1 rfl (Nat.le_of_ble_eq_true rfl) dX9_number_10 ⟨Nat.zero_le _, Nat.zero_le _⟩ (fun r10 f8 H locs hM hp9 => ?_)
        obtain ⟨rfl, rfl⟩ := hp9
        rw [if_pos rfl]
        have hnx10 := nx_in (T := T) (L := L) (a := (a + i)) htx
        refine g_i2l hx hb dX9_number_13 ⟨by omega, by omega⟩ ?_
        refine g_ldc2 (z := 48) hx hb hown (hts _ u_1570) dX9_number_14 (by decide) ?_
        refine g_ldc2 (z := 57) hx hb hown (hts _ u_1571) dX9_number_17 (by decide) ?_
        have hC11 := c_X9_in l g b0 n fL (nx T L (a + i)) 48 57 ⟨by omega, by omega⟩ (by decide) (by decide)
        refine g_callSi (As := [.long (zL (nx T L (a + i))), .long (zL 48), .long (zL 57)]) (rest := []) ⟨hx, hb, hml, hown, hts⟩ hK hM hC11 (cuS (n := 3) hts u_1240 u_1238 u_10 (by decide) u_1239 ⟨Nat.le_of_ble_eq_true rfl, Nat.le_of_ble_eq_true rfl⟩) rfl hl.1 rfl (Nat.le_of_ble_eq_true rfl) dX9_number_20 ⟨Nat.zero_le _, Nat.zero_le _⟩ (fun r20 f12 H locs hM hp13 => ?_)
        obtain ⟨rfl, rfl⟩ := hp13
        refine g_ifb_eq (tgt := 55) hx hb dX9_number_23 (by decide) (fun c23 => ?_) (fun c23 => ?_)
        · skip
          have hend : i = mm ∨ ¬ dg T L (a + i) := by omega
          refine lv_aload_n hx hb dX9_number_55 rfl (lv_at hl 0 rfl) ?_
          refine lv_dup hx hb dX9_number_56 rfl ?_
          refine g_get (ci := 11) (v := .int (zI 0)) (C := RX9) (T := TX9) (N := 24) hx hb hts iU_X9 hown hK hM ⟨by omega, by omega⟩ hL0 rfl 22 (by decide) (hts _ u_1166) (fun _ h9 => h9) rfl dX9_number_57 ?_
          refine lv_iload_n hx hb dX9_number_60 rfl (lv_at hl 3 rfl) ?_
          refine g_if_ne (tgt := 68) hx hb dX9_number_61 (by decide) ⟨by omega, by omega⟩ (fun c61 => ?_) (fun c61 => ?_)
          · skip
            refine g_iconst hx hb dX9_number_68 ?_
            refine g_iorL (z1 := 0) (z2 := 0) (z3 := 0) hx hb dX9_number_69 (by decide) ?_
            refine g_put (ci := 11) (v := .int (zI 0)) (ty := .boolean) (C := RX9) (T := TX9) (N := 24) hx hb hts iU_X9 tyX9 tyX9_ok nmX9 hown hK hM ⟨by omega, by omega⟩ hL0 rfl 22 (by decide) (hts _ u_1166) (fun _ h9 => h9) rfl (by decide +kernel) (by decide) (by decide) (Nat.le_of_ble_eq_true rfl) dX9_number_70 (fun f14 H locs hM hf16 o15 => ?_)
            have hf16 : f14 (h) = .inr (11, [.int (zI (Z 0)), .ref (h + 1), .ref (h + 2), .ref (h + 3), .ref (h + 4), .ref (h + 5), .ref (h + 6), .ref (h + 7), .ref (h + 8), .int (zI (Z 9)), .int (zI (Z 10)), .int (zI (Z 11)), .int (zI (Z 12)), .int (zI (Z 13)), .int (zI (Z 14)), .int (zI (Z 15)), .int (zI (Z 16)), .ref (h + 9), .ref (h + 10), .ref (h + 11), .int (zI (↑L : Int)), .int (zI (↑(a + i) : Int)), .int (zI 0), .ref (h + 12)]) := hf16
            refine lv_iload_n hx hb dX9_number_73 rfl (lv_at hl 2 rfl) ?_
            refine g_iret hx hb hr hlk hK hM dX9_number_74 ?_
            have hq9 : sNum T L mm a 0 = (a + i, v) := by
              rw [hst]
              rcases hend with q | q
              · rw [q, Nat.sub_self]; rfl
              · cases hm9 : mm - i with
                | zero => rfl
                | succ k8 => unfold sNum; rw [if_neg q]
            refine Or.inl ⟨by rw [hq9]; show a < a + i; omega, by rw [hq9], by rw [hq9]; exact hf16, (fun q hq => ((o15 (q) (by omega)).trans (hfr (q) (by omega))))⟩
          · skip
            refine g_iconst hx hb dX9_number_64 ?_
            refine lv_goto (tgt := 69) hx hb dX9_number_65 (by decide) ?_
            refine g_iorL (z1 := 0) (z2 := 1) (z3 := 1) hx hb dX9_number_69 (by decide) ?_
            refine g_put (ci := 11) (v := .int (zI 1)) (ty := .boolean) (C := RX9) (T := TX9) (N := 24) hx hb hts iU_X9 tyX9 tyX9_ok nmX9 hown hK hM ⟨by omega, by omega⟩ hL0 rfl 22 (by decide) (hts _ u_1166) (fun _ h9 => h9) rfl (by decide +kernel) (by decide) (by decide) (Nat.le_of_ble_eq_true rfl) dX9_number_70 (fun f17 H locs hM hf19 o18 => ?_)
            have hf19 : f17 (h) = .inr (11, [.int (zI (Z 0)), .ref (h + 1), .ref (h + 2), .ref (h + 3), .ref (h + 4), .ref (h + 5), .ref (h + 6), .ref (h + 7), .ref (h + 8), .int (zI (Z 9)), .int (zI (Z 10)), .int (zI (Z 11)), .int (zI (Z 12)), .int (zI (Z 13)), .int (zI (Z 14)), .int (zI (Z 15)), .int (zI (Z 16)), .ref (h + 9), .ref (h + 10), .ref (h + 11), .int (zI (↑L : Int)), .int (zI (↑(a + i) : Int)), .int (zI 1), .ref (h + 12)]) := hf19
            refine lv_iload_n hx hb dX9_number_73 rfl (lv_at hl 2 rfl) ?_
            refine g_iret hx hb hr hlk hK hM dX9_number_74 ?_
            have hq9 : sNum T L mm a 0 = (a + i, v) := by
              rw [hst]
              rcases hend with q | q
              · rw [q, Nat.sub_self]; rfl
              · cases hm9 : mm - i with
                | zero => rfl
                | succ k8 => unfold sNum; rw [if_neg q]
            have hi0 : i = 0 := by omega
            have h7 := hf19
            have h8 : ((a + i : Nat) : Int) = ↑a := by omega
            rw [h8] at h7
            exact Or.inr ⟨by rw [hq9]; show a + i = a; omega, h7, (fun q hq => ((o18 (q) (by omega)).trans (hfr (q) (by omega))))⟩
        · skip
          refine g_bipush hx hb dX9_number_26 (by decide) ?_
          refine lv_iload_n hx hb dX9_number_28 rfl (lv_at hl 2 rfl) ?_
          refine g_imul hx hb dX9_number_29 ?_
          refine lv_aload_n hx hb dX9_number_30 rfl (lv_at hl 0 rfl) ?_
          have hC20 := c_X9_sign l g b0 n fL h Z In T L (a + i) 0 hL0 hrg hL1 hTT hL htx (by omega) (by decide)
          refine g_callVi (ci := 11) (C := RX9) (T := TX9) (N := 24) (As := []) (rest := [.int (zI (10 * v))]) ⟨hx, hb, hml, hown, hts⟩ hK hM hC20 (cuV (n := 0) hts u_1565 u_1562 u_10 (by decide) u_1564 us_69 ⟨Nat.le_of_ble_eq_true rfl, Nat.le_of_ble_eq_true rfl⟩) ⟨by omega, by omega⟩ hL0 rfl rfl hl.1 rfl (Nat.le_of_ble_eq_true rfl) dX9_number_31 ⟨Nat.zero_le _, Nat.zero_le _⟩ (fun r31 f21 H locs hM hp22 => ?_)
          obtain ⟨rfl, rfl⟩ := hp22
          rw [if_pos rfl]
          have hnx23 := nx_in (T := T) (L := L) (a := (a + i)) htx
          refine g_iadd hx hb dX9_number_34 ?_
          refine g_bipush hx hb dX9_number_35 (by decide) ?_
          refine g_isub hx hb dX9_number_37 ?_
          refine lv_istore_n (lv' := [(2, .int (zI (((10 * v) + (nx T L (a + i))) - 48))), (0, .ref h), (1, .int (zI (↑mm : Int))), (3, .int (zI (↑i : Int)))]) hx hb dX9_number_38 rfl hl (by decide) rfl (fun ls hl => ?_)
          refine lv_aload_n hx hb dX9_number_39 rfl (lv_at hl 1 rfl) ?_
          refine lv_dup hx hb dX9_number_40 rfl ?_
          refine g_get (ci := 11) (v := .int (zI (↑(a + i) : Int))) (C := RX9) (T := TX9) (N := 24) hx hb hts iU_X9 hown hK hM ⟨by omega, by omega⟩ hL0 rfl 21 (by decide) (hts _ u_1165) (fun _ h9 => h9) rfl dX9_number_41 ?_
          refine g_iconst hx hb dX9_number_44 ?_
          refine g_iadd hx hb dX9_number_45 ?_
          refine g_put (ci := 11) (v := .int (zI ((↑(a + i) : Int) + 1))) (ty := .int) (C := RX9) (T := TX9) (N := 24) hx hb hts iU_X9 tyX9 tyX9_ok nmX9 hown hK hM ⟨by omega, by omega⟩ hL0 rfl 21 (by decide) (hts _ u_1165) (fun _ h9 => h9) rfl (by decide +kernel) rfl rfl (Nat.le_of_ble_eq_true rfl) dX9_number_46 (fun f24 H locs hM hf26 o25 => ?_)
          have hf26 : f24 (h) = .inr (11, [.int (zI (Z 0)), .ref (h + 1), .ref (h + 2), .ref (h + 3), .ref (h + 4), .ref (h + 5), .ref (h + 6), .ref (h + 7), .ref (h + 8), .int (zI (Z 9)), .int (zI (Z 10)), .int (zI (Z 11)), .int (zI (Z 12)), .int (zI (Z 13)), .int (zI (Z 14)), .int (zI (Z 15)), .int (zI (Z 16)), .ref (h + 9), .ref (h + 10), .ref (h + 11), .int (zI (↑L : Int)), .int (zI ((↑(a + i) : Int) + 1)), .int (zI 0), .ref (h + 12)]) := hf26
          refine lv_iinc (v := zI ((↑i : Int) + 1)) (lv' := [(3, .int (zI ((↑i : Int) + 1))), (2, .int (zI (((10 * v) + (nx T L (a + i))) - 48))), (0, .ref h), (1, .int (zI (↑mm : Int)))]) hx hb dX9_number_49 hl (k := 3) rfl (zI_add _ _) (by decide) rfl (fun ls hl => ?_)
          refine lv_goto (tgt := 4) hx hb dX9_number_52 (by decide) ?_
          have hf27 := hL1.kept (o25 (h + 11) (by omega))
          exact ih4 (i + 1) (((10 * v) + (nx T L (a + i))) - 48) f24 _ _ _ (by omega) (by omega) (by have := nx_lt (T := T) (L := L) (a := a + i) (by omega); omega) (sNum_lp hst (by omega) ⟨by omega, by omega⟩) (fun q hq => ((o25 (q) (by omega)).trans (hfr (q) (by omega)))) hM hf26 hf27 (lv_sub hl [2, 3, 1, 0] rfl)
  exact lp4 ((mm + 1)) 0 0 f _ _ _ (by omega) (by omega) (by omega) rfl (fun q hq => rfl) hM hO hIn (lv_sub hl [2, 3, 1, 0] rfl)

def po_X9_place (g : gE) (f : gF) (h : Nat) (Z In T : Nat → Int) (L a : Nat) : Int32 → gF → Prop := fun r f1 => (plG T L a ∧ r = zI (plV T L a) ∧ mdO f1 h (zR Z ↑L (↑a + 1) 0) ∧ ∀ q, q ≠ h → f1 q = f q) ∨ (¬ plG T L a ∧ mdO f1 h (zR Z ↑L ↑a 1) ∧ ∀ q, q ≠ h → f1 q = f q)
set_option maxRecDepth 100000 in
set_option maxHeartbeats 1000000 in
/-- place -/
theorem c_X9_place (l : Launch) (g : gE) (b0 n : Nat) (f : gF) (h : Nat) (Z In T : Nat → Int) (L a : Nat) (hO : mdO f h (zR Z ↑L ↑a 0)) (hrg : b0 ≤ h ∧ h + 13 ≤ b0 + n) (hIn : arI g f (h + 11) 60 In) (hTT : ∀ k, k < L → In k = T k) (hL : L ≤ 60) (htx : txOk T) (haL : a ≤ L) : cI l yX9_place cX9_place 1 (some .int) 2 48 [.ref h] g b0 n f (po_X9_place g f h Z In T L a) := by
  refine gs_i (cc := cX9_place) (maxL := 1) (ret := (some .int)) (by decide) (Nat.le_of_ble_eq_true rfl) ?_
  intro p e0 s m args below meth c ls hx hb hr hml hown hts hlk hK hM hl
  have hl : lv_has ls 1 [(0, .ref h)] := hl
  refine lv_aload_n hx hb dX9_place_0 rfl (lv_at hl 0 rfl) ?_
  have hC1 := c_X9_sign l g b0 n f h Z In T L a 0 hO hrg hIn hTT hL htx (by omega) (by decide)
  refine g_callVi (ci := 11) (C := RX9) (T := TX9) (N := 24) (As := []) (rest := []) ⟨hx, hb, hml, hown, hts⟩ hK hM hC1 (cuV (n := 0) hts u_1565 u_1562 u_10 (by decide) u_1564 us_69 ⟨Nat.le_of_ble_eq_true rfl, Nat.le_of_ble_eq_true rfl⟩) ⟨by omega, by omega⟩ hO rfl rfl hl.1 rfl (Nat.le_of_ble_eq_true rfl) dX9_place_1 ⟨Nat.zero_le _, Nat.zero_le _⟩ (fun r1 f2 H locs hM hp3 => ?_)
  obtain ⟨rfl, rfl⟩ := hp3
  rw [if_pos rfl]
  have hnx4 := nx_in (T := T) (L := L) (a := a) htx
  refine g_bipush hx hb dX9_place_4 (by decide) ?_
  refine g_icmp_eq (tgt := 15) hx hb dX9_place_6 (by decide) ⟨by omega, by omega⟩ (by decide) (fun c6 => ?_) (fun c6 => ?_)
  · skip
    refine lv_aload_n hx hb dX9_place_15 rfl (lv_at hl 0 rfl) ?_
    refine lv_dup hx hb dX9_place_16 rfl ?_
    refine g_get (ci := 11) (v := .int (zI (↑a : Int))) (C := RX9) (T := TX9) (N := 24) hx hb hts iU_X9 hown hK hM ⟨by omega, by omega⟩ hO rfl 21 (by decide) (hts _ u_1165) (fun _ h9 => h9) rfl dX9_place_17 ?_
    refine g_iconst hx hb dX9_place_20 ?_
    refine g_iadd hx hb dX9_place_21 ?_
    refine g_put (ci := 11) (v := .int (zI ((↑a : Int) + 1))) (ty := .int) (C := RX9) (T := TX9) (N := 24) hx hb hts iU_X9 tyX9 tyX9_ok nmX9 hown hK hM ⟨by omega, by omega⟩ hO rfl 21 (by decide) (hts _ u_1165) (fun _ h9 => h9) rfl (by decide +kernel) rfl rfl (Nat.le_of_ble_eq_true rfl) dX9_place_22 (fun f5 H locs hM hf7 o6 => ?_)
    have hf7 : f5 (h) = .inr (11, [.int (zI (Z 0)), .ref (h + 1), .ref (h + 2), .ref (h + 3), .ref (h + 4), .ref (h + 5), .ref (h + 6), .ref (h + 7), .ref (h + 8), .int (zI (Z 9)), .int (zI (Z 10)), .int (zI (Z 11)), .int (zI (Z 12)), .int (zI (Z 13)), .int (zI (Z 14)), .int (zI (Z 15)), .int (zI (Z 16)), .ref (h + 9), .ref (h + 10), .ref (h + 11), .int (zI (↑L : Int)), .int (zI ((↑a : Int) + 1)), .int (zI 0), .ref (h + 12)]) := hf7
    refine g_iconst hx hb dX9_place_25 ?_
    refine g_iret hx hb hr hlk hK hM dX9_place_26 ?_
    exact Or.inl ⟨Or.inl c6, by unfold plV; rw [if_pos c6], hf7, (fun q hq => (o6 (q) (by omega)))⟩
  · skip
    refine lv_aload_n hx hb dX9_place_9 rfl (lv_at hl 0 rfl) ?_
    refine g_iconst hx hb dX9_place_10 ?_
    have hC8 := c_X9_number l g b0 n f h Z In T L a 1 hO hrg hIn hTT hL htx (by omega) (by decide) (by decide)
    refine g_callVi (ci := 11) (C := RX9) (T := TX9) (N := 24) (As := [.int (zI 1)]) (rest := []) ⟨hx, hb, hml, hown, hts⟩ hK hM hC8 (cuV (n := 1) hts u_1569 u_1566 u_10 (by decide) u_1568 us_70 ⟨Nat.le_of_ble_eq_true rfl, Nat.le_of_ble_eq_true rfl⟩) ⟨by omega, by omega⟩ hO rfl rfl hl.1 rfl (Nat.le_of_ble_eq_true rfl) dX9_place_11 ⟨Nat.zero_le _, Nat.zero_le _⟩ (fun r11 f9 H locs hM hp10 => ?_)
    rcases hp10 with ⟨hnc11, hnc11r, hm12, o13⟩ | ⟨hnc14, hm15, o16⟩
    · skip
      obtain ⟨hnc11d, hnc11q⟩ := sNum1_y hnc11
      rw [hnc11q] at hm12 hnc11r
      have hnc11r : r11 = zI (nx T L a - 48) := hnc11r
      subst hnc11r
      have hnc11l := nx_lt (T := T) (L := L) (a := a) (by have := hnc11d.1; omega)
      have ho17 : f9 h = .inr (11, [.int (zI (Z 0)), .ref (h + 1), .ref (h + 2), .ref (h + 3), .ref (h + 4), .ref (h + 5), .ref (h + 6), .ref (h + 7), .ref (h + 8), .int (zI (Z 9)), .int (zI (Z 10)), .int (zI (Z 11)), .int (zI (Z 12)), .int (zI (Z 13)), .int (zI (Z 14)), .int (zI (Z 15)), .int (zI (Z 16)), .ref (h + 9), .ref (h + 10), .ref (h + 11), .int (zI (↑L : Int)), .int (zI ((↑a : Int) + 1)), .int (zI 0), .ref (h + 12)]) := hm12
      refine g_iret hx hb hr hlk hK hM dX9_place_14 ?_
      exact Or.inl ⟨Or.inr hnc11d, by unfold plV; rw [if_neg c6], ho17, (fun q hq => (o13 (q) (by omega)))⟩
    · skip
      have ho18 : f9 h = .inr (11, [.int (zI (Z 0)), .ref (h + 1), .ref (h + 2), .ref (h + 3), .ref (h + 4), .ref (h + 5), .ref (h + 6), .ref (h + 7), .ref (h + 8), .int (zI (Z 9)), .int (zI (Z 10)), .int (zI (Z 11)), .int (zI (Z 12)), .int (zI (Z 13)), .int (zI (Z 14)), .int (zI (Z 15)), .int (zI (Z 16)), .ref (h + 9), .ref (h + 10), .ref (h + 11), .int (zI (↑L : Int)), .int (zI (↑a : Int)), .int (zI 1), .ref (h + 12)]) := hm15
      obtain ⟨hnc14v, rfl⟩ : ∃ z : Int, r11 = zI z := ⟨r11.toInt, (zI_self _).symm⟩
      refine g_iret hx hb hr hlk hK hM dX9_place_14 ?_
      exact Or.inr ⟨fun hh => hh.elim c6 (sNum1_n hnc14), ho18, (fun q hq => (o16 (q) (by omega)))⟩

def po_X9_command (g : gE) (f : gF) (h : Nat) (Z In C T : Nat → Int) (L a : Nat) : gF → Prop := fun f1 => ((sCmd T L a).1 = true ∧ mdO f1 h (zR Z ↑L ↑(sCmd T L a).2.1 0) ∧ (∃ C1 : Nat → Int, arI g f1 (h + 12) 4 C1 ∧ C1 0 = (sCmd T L a).2.2.1 ∧ C1 1 = (sCmd T L a).2.2.2.1 ∧ C1 2 = (sCmd T L a).2.2.2.2.1 ∧ C1 3 = (sCmd T L a).2.2.2.2.2) ∧ ∀ q, (q ≠ h ∧ q ≠ h + 12) → f1 q = f q) ∨ ((sCmd T L a).1 = false ∧ mdO f1 h (zR Z ↑L ↑(sCmd T L a).2.1 1) ∧ (∃ C1 : Nat → Int, arI g f1 (h + 12) 4 C1) ∧ ∀ q, (q ≠ h ∧ q ≠ h + 12) → f1 q = f q)
set_option maxRecDepth 100000 in
set_option maxHeartbeats 1000000 in
/-- command -/
theorem c_X9_command (l : Launch) (g : gE) (b0 n : Nat) (f : gF) (h : Nat) (Z In C T : Nat → Int) (L a : Nat) (hO : mdO f h (zR Z ↑L ↑a 0)) (hrg : b0 ≤ h ∧ h + 13 ≤ b0 + n) (hIn : arI g f (h + 11) 60 In) (hTT : ∀ k, k < L → In k = T k) (hL : L ≤ 60) (htx : txOk T) (haL : a ≤ L) (hC : arI g f (h + 12) 4 C) : cV l yX9_command cX9_command 2 none 3 68 [.ref h] g b0 n f (po_X9_command g f h Z In C T L a) := by
  refine gs_v (cc := cX9_command) (maxL := 2) (ret := none) (by decide) (Nat.le_of_ble_eq_true rfl) ?_
  intro p e0 s m args below meth c ls hx hb hr hml hown hts hlk hK hM hl
  have hl : lv_has ls 2 [(0, .ref h)] := hl
  unfold po_X9_command
  refine lv_aload_n hx hb dX9_command_0 rfl (lv_at hl 0 rfl) ?_
  have hC1 := c_X9_sign l g b0 n f h Z In T L a 0 hO hrg hIn hTT hL htx (by omega) (by decide)
  refine g_callVi (ci := 11) (C := RX9) (T := TX9) (N := 24) (As := []) (rest := []) ⟨hx, hb, hml, hown, hts⟩ hK hM hC1 (cuV (n := 0) hts u_1565 u_1562 u_10 (by decide) u_1564 us_69 ⟨Nat.le_of_ble_eq_true rfl, Nat.le_of_ble_eq_true rfl⟩) ⟨by omega, by omega⟩ hO rfl rfl hl.1 rfl (Nat.le_of_ble_eq_true rfl) dX9_command_1 ⟨Nat.zero_le _, Nat.zero_le _⟩ (fun r1 f2 H locs hM hp3 => ?_)
  obtain ⟨rfl, rfl⟩ := hp3
  rw [if_pos rfl]
  have hnx4 := nx_in (T := T) (L := L) (a := a) htx
  refine lv_istore_n (lv' := [(1, .int (zI (nx T L a))), (0, .ref h)]) hx hb dX9_command_4 rfl hl (by decide) rfl (fun ls hl => ?_)
  refine lv_aload_n hx hb dX9_command_5 rfl (lv_at hl 1 rfl) ?_
  refine lv_dup hx hb dX9_command_6 rfl ?_
  refine g_get (ci := 11) (v := .int (zI 0)) (C := RX9) (T := TX9) (N := 24) hx hb hts iU_X9 hown hK hM ⟨by omega, by omega⟩ hO rfl 22 (by decide) (hts _ u_1166) (fun _ h9 => h9) rfl dX9_command_7 ?_
  refine lv_iload_n hx hb dX9_command_10 rfl (lv_at hl 0 rfl) ?_
  refine g_bipush hx hb dX9_command_11 (by decide) ?_
  refine g_icmp_eq (tgt := 44) hx hb dX9_command_13 (by decide) ⟨by omega, by omega⟩ (by decide) (fun c13 => ?_) (fun c13 => ?_)
  · skip
    rw [c13] at hl
    have hlt0 := nx_lt (T := T) (L := L) (a := a) (by omega)
    refine g_iconst hx hb dX9_command_44 ?_
    refine g_iorL (z1 := 0) (z2 := 0) (z3 := 0) hx hb dX9_command_45 (by decide) ?_
    refine g_put (ci := 11) (v := .int (zI 0)) (ty := .boolean) (C := RX9) (T := TX9) (N := 24) hx hb hts iU_X9 tyX9 tyX9_ok nmX9 hown hK hM ⟨by omega, by omega⟩ hO rfl 22 (by decide) (hts _ u_1166) (fun _ h9 => h9) rfl (by decide +kernel) (by decide) (by decide) (Nat.le_of_ble_eq_true rfl) dX9_command_46 (fun f5 H locs hM hf7 o6 => ?_)
    have hf7 : f5 (h) = .inr (11, [.int (zI (Z 0)), .ref (h + 1), .ref (h + 2), .ref (h + 3), .ref (h + 4), .ref (h + 5), .ref (h + 6), .ref (h + 7), .ref (h + 8), .int (zI (Z 9)), .int (zI (Z 10)), .int (zI (Z 11)), .int (zI (Z 12)), .int (zI (Z 13)), .int (zI (Z 14)), .int (zI (Z 15)), .int (zI (Z 16)), .ref (h + 9), .ref (h + 10), .ref (h + 11), .int (zI (↑L : Int)), .int (zI (↑a : Int)), .int (zI 0), .ref (h + 12)]) := hf7
    refine lv_aload_n hx hb dX9_command_49 rfl (lv_at hl 1 rfl) ?_
    refine g_get (ci := 11) (v := .int (zI 0)) (C := RX9) (T := TX9) (N := 24) hx hb hts iU_X9 hown hK hM ⟨by omega, by omega⟩ hf7 rfl 22 (by decide) (hts _ u_1166) (fun _ h9 => h9) rfl dX9_command_50 ?_
    refine g_if_eq (tgt := 57) hx hb dX9_command_53 (by decide) (by decide) (fun c53 => ?_) (fun c53 => ?_)
    · skip
      refine lv_aload_n hx hb dX9_command_57 rfl (lv_at hl 1 rfl) ?_
      refine lv_dup hx hb dX9_command_58 rfl ?_
      refine g_get (ci := 11) (v := .int (zI (↑a : Int))) (C := RX9) (T := TX9) (N := 24) hx hb hts iU_X9 hown hK hM ⟨by omega, by omega⟩ hf7 rfl 21 (by decide) (hts _ u_1165) (fun _ h9 => h9) rfl dX9_command_59 ?_
      refine g_iconst hx hb dX9_command_62 ?_
      refine g_iadd hx hb dX9_command_63 ?_
      refine g_put (ci := 11) (v := .int (zI ((↑a : Int) + 1))) (ty := .int) (C := RX9) (T := TX9) (N := 24) hx hb hts iU_X9 tyX9 tyX9_ok nmX9 hown hK hM ⟨by omega, by omega⟩ hf7 rfl 21 (by decide) (hts _ u_1165) (fun _ h9 => h9) rfl (by decide +kernel) rfl rfl (Nat.le_of_ble_eq_true rfl) dX9_command_64 (fun f8 H locs hM hf10 o9 => ?_)
      have hf10 : f8 (h) = .inr (11, [.int (zI (Z 0)), .ref (h + 1), .ref (h + 2), .ref (h + 3), .ref (h + 4), .ref (h + 5), .ref (h + 6), .ref (h + 7), .ref (h + 8), .int (zI (Z 9)), .int (zI (Z 10)), .int (zI (Z 11)), .int (zI (Z 12)), .int (zI (Z 13)), .int (zI (Z 14)), .int (zI (Z 15)), .int (zI (Z 16)), .ref (h + 9), .ref (h + 10), .ref (h + 11), .int (zI (↑L : Int)), .int (zI ((↑a : Int) + 1)), .int (zI 0), .ref (h + 12)]) := hf10
      refine lv_aload_n hx hb dX9_command_67 rfl (lv_at hl 1 rfl) ?_
      refine g_get (ci := 11) (v := .ref (h + 12)) (C := RX9) (T := TX9) (N := 24) hx hb hts iU_X9 hown hK hM ⟨by omega, by omega⟩ hf10 rfl 23 (by decide) (hts _ u_1167) (fun _ h9 => h9) rfl dX9_command_68 ?_
      refine g_iconst hx hb dX9_command_71 ?_
      refine lv_iload_n hx hb dX9_command_72 rfl (lv_at hl 0 rfl) ?_
      refine g_bipush hx hb dX9_command_73 (by decide) ?_
      refine g_icmp_ne (tgt := 82) hx hb dX9_command_75 (by decide) (by decide) (by decide) (fun c75 => ?_) (fun c75 => ?_)
      · exact absurd c75 (by decide)
      · skip
        refine g_iconst hx hb dX9_command_78 ?_
        refine lv_goto (tgt := 117) hx hb dX9_command_79 (by decide) ?_
        have hf11 := hC.kept ((o9 (h + 12) (by omega)).trans (o6 (h + 12) (by omega)))
        refine g_iast hx hb hK hM ⟨by omega, by omega⟩ hf11 (by decide) (by decide) (by decide) dX9_command_117 (fun f12 H locs hM ha14 o13 => ?_)
        refine lv_aload_n hx hb dX9_command_118 rfl (lv_at hl 1 rfl) ?_
        have hf15 : f12 (h) = .inr (11, [.int (zI (Z 0)), .ref (h + 1), .ref (h + 2), .ref (h + 3), .ref (h + 4), .ref (h + 5), .ref (h + 6), .ref (h + 7), .ref (h + 8), .int (zI (Z 9)), .int (zI (Z 10)), .int (zI (Z 11)), .int (zI (Z 12)), .int (zI (Z 13)), .int (zI (Z 14)), .int (zI (Z 15)), .int (zI (Z 16)), .ref (h + 9), .ref (h + 10), .ref (h + 11), .int (zI (↑L : Int)), .int (zI ((↑a : Int) + 1)), .int (zI 0), .ref (h + 12)]) := (o13 (h) (by omega)).trans hf10
        refine g_get (ci := 11) (v := .ref (h + 12)) (C := RX9) (T := TX9) (N := 24) hx hb hts iU_X9 hown hK hM ⟨by omega, by omega⟩ hf15 rfl 23 (by decide) (hts _ u_1167) (fun _ h9 => h9) rfl dX9_command_119 ?_
        refine g_iconst hx hb dX9_command_122 ?_
        refine lv_iload_n hx hb dX9_command_123 rfl (lv_at hl 0 rfl) ?_
        refine g_bipush hx hb dX9_command_124 (by decide) ?_
        refine g_icmp_ne (tgt := 133) hx hb dX9_command_126 (by decide) (by decide) (by decide) (fun c126 => ?_) (fun c126 => ?_)
        · exact absurd c126 (by decide)
        · skip
          refine g_iconst hx hb dX9_command_129 ?_
          refine lv_goto (tgt := 172) hx hb dX9_command_130 (by decide) ?_
          refine g_iast hx hb hK hM ⟨by omega, by omega⟩ ha14 (by decide) (by decide) (by decide) dX9_command_172 (fun f16 H locs hM ha18 o17 => ?_)
          refine lv_aload_n hx hb dX9_command_173 rfl (lv_at hl 1 rfl) ?_
          have hf19 : f16 (h) = .inr (11, [.int (zI (Z 0)), .ref (h + 1), .ref (h + 2), .ref (h + 3), .ref (h + 4), .ref (h + 5), .ref (h + 6), .ref (h + 7), .ref (h + 8), .int (zI (Z 9)), .int (zI (Z 10)), .int (zI (Z 11)), .int (zI (Z 12)), .int (zI (Z 13)), .int (zI (Z 14)), .int (zI (Z 15)), .int (zI (Z 16)), .ref (h + 9), .ref (h + 10), .ref (h + 11), .int (zI (↑L : Int)), .int (zI ((↑a : Int) + 1)), .int (zI 0), .ref (h + 12)]) := (o17 (h) (by omega)).trans hf15
          refine g_get (ci := 11) (v := .ref (h + 12)) (C := RX9) (T := TX9) (N := 24) hx hb hts iU_X9 hown hK hM ⟨by omega, by omega⟩ hf19 rfl 23 (by decide) (hts _ u_1167) (fun _ h9 => h9) rfl dX9_command_174 ?_
          refine g_iconst hx hb dX9_command_177 ?_
          refine g_iconst hx hb dX9_command_178 ?_
          refine g_iast hx hb hK hM ⟨by omega, by omega⟩ ha18 (by decide) (by decide) (by decide) dX9_command_179 (fun f20 H locs hM ha22 o21 => ?_)
          refine lv_aload_n hx hb dX9_command_180 rfl (lv_at hl 1 rfl) ?_
          have hf23 : f20 (h) = .inr (11, [.int (zI (Z 0)), .ref (h + 1), .ref (h + 2), .ref (h + 3), .ref (h + 4), .ref (h + 5), .ref (h + 6), .ref (h + 7), .ref (h + 8), .int (zI (Z 9)), .int (zI (Z 10)), .int (zI (Z 11)), .int (zI (Z 12)), .int (zI (Z 13)), .int (zI (Z 14)), .int (zI (Z 15)), .int (zI (Z 16)), .ref (h + 9), .ref (h + 10), .ref (h + 11), .int (zI (↑L : Int)), .int (zI ((↑a : Int) + 1)), .int (zI 0), .ref (h + 12)]) := (o21 (h) (by omega)).trans hf19
          refine g_get (ci := 11) (v := .ref (h + 12)) (C := RX9) (T := TX9) (N := 24) hx hb hts iU_X9 hown hK hM ⟨by omega, by omega⟩ hf23 rfl 23 (by decide) (hts _ u_1167) (fun _ h9 => h9) rfl dX9_command_181 ?_
          refine g_iconst hx hb dX9_command_184 ?_
          refine g_iconst hx hb dX9_command_185 ?_
          refine g_iast hx hb hK hM ⟨by omega, by omega⟩ ha22 (by decide) (by decide) (by decide) dX9_command_186 (fun f24 H locs hM ha26 o25 => ?_)
          refine lv_iload_n hx hb dX9_command_187 rfl (lv_at hl 0 rfl) ?_
          refine g_bipush hx hb dX9_command_188 (by decide) ?_
          refine g_icmp_ne (tgt := 220) hx hb dX9_command_190 (by decide) (by decide) (by decide) (fun c190 => ?_) (fun c190 => ?_)
          · skip
            refine lv_iload_n hx hb dX9_command_220 rfl (lv_at hl 0 rfl) ?_
            refine g_bipush hx hb dX9_command_221 (by decide) ?_
            refine g_icmp_eq (tgt := 233) hx hb dX9_command_223 (by decide) (by decide) (by decide) (fun c223 => ?_) (fun c223 => ?_)
            · exact absurd c223 (by decide)
            · skip
              refine lv_iload_n hx hb dX9_command_226 rfl (lv_at hl 0 rfl) ?_
              refine g_bipush hx hb dX9_command_227 (by decide) ?_
              refine g_icmp_eq (tgt := 233) hx hb dX9_command_229 (by decide) (by decide) (by decide) (fun c229 => ?_) (fun c229 => ?_)
              · exact absurd c229 (by decide)
              · skip
                have hf27 : f24 (h) = .inr (11, [.int (zI (Z 0)), .ref (h + 1), .ref (h + 2), .ref (h + 3), .ref (h + 4), .ref (h + 5), .ref (h + 6), .ref (h + 7), .ref (h + 8), .int (zI (Z 9)), .int (zI (Z 10)), .int (zI (Z 11)), .int (zI (Z 12)), .int (zI (Z 13)), .int (zI (Z 14)), .int (zI (Z 15)), .int (zI (Z 16)), .ref (h + 9), .ref (h + 10), .ref (h + 11), .int (zI (↑L : Int)), .int (zI ((↑a : Int) + 1)), .int (zI 0), .ref (h + 12)]) := (o25 (h) (by omega)).trans hf23
                refine g_vret hx hb hr hlk hK hM dX9_command_232 ?_
                have hS : sCmd T L a = (true, a + 1, 0, -1, 0, 0) := by
                  unfold sCmd
                  rw [if_pos c13]
                rw [hS]
                exact Or.inl ⟨rfl, hf27, ⟨_, ha26, rfl, rfl, rfl, rfl⟩, (fun q hq => ((o25 (q) (by omega)).trans ((o21 (q) (by omega)).trans ((o17 (q) (by omega)).trans ((o13 (q) (by omega)).trans ((o9 (q) (by omega)).trans (o6 (q) (by omega))))))))⟩
          · exact absurd c190 (by decide)
    · exact absurd c53 (by decide)
  · skip
    refine lv_iload_n hx hb dX9_command_16 rfl (lv_at hl 0 rfl) ?_
    refine g_bipush hx hb dX9_command_17 (by decide) ?_
    refine g_icmp_eq (tgt := 44) hx hb dX9_command_19 (by decide) ⟨by omega, by omega⟩ (by decide) (fun c19 => ?_) (fun c19 => ?_)
    · skip
      rw [c19] at hl
      have hlt0 := nx_lt (T := T) (L := L) (a := a) (by omega)
      refine g_iconst hx hb dX9_command_44 ?_
      refine g_iorL (z1 := 0) (z2 := 0) (z3 := 0) hx hb dX9_command_45 (by decide) ?_
      refine g_put (ci := 11) (v := .int (zI 0)) (ty := .boolean) (C := RX9) (T := TX9) (N := 24) hx hb hts iU_X9 tyX9 tyX9_ok nmX9 hown hK hM ⟨by omega, by omega⟩ hO rfl 22 (by decide) (hts _ u_1166) (fun _ h9 => h9) rfl (by decide +kernel) (by decide) (by decide) (Nat.le_of_ble_eq_true rfl) dX9_command_46 (fun f28 H locs hM hf30 o29 => ?_)
      have hf30 : f28 (h) = .inr (11, [.int (zI (Z 0)), .ref (h + 1), .ref (h + 2), .ref (h + 3), .ref (h + 4), .ref (h + 5), .ref (h + 6), .ref (h + 7), .ref (h + 8), .int (zI (Z 9)), .int (zI (Z 10)), .int (zI (Z 11)), .int (zI (Z 12)), .int (zI (Z 13)), .int (zI (Z 14)), .int (zI (Z 15)), .int (zI (Z 16)), .ref (h + 9), .ref (h + 10), .ref (h + 11), .int (zI (↑L : Int)), .int (zI (↑a : Int)), .int (zI 0), .ref (h + 12)]) := hf30
      refine lv_aload_n hx hb dX9_command_49 rfl (lv_at hl 1 rfl) ?_
      refine g_get (ci := 11) (v := .int (zI 0)) (C := RX9) (T := TX9) (N := 24) hx hb hts iU_X9 hown hK hM ⟨by omega, by omega⟩ hf30 rfl 22 (by decide) (hts _ u_1166) (fun _ h9 => h9) rfl dX9_command_50 ?_
      refine g_if_eq (tgt := 57) hx hb dX9_command_53 (by decide) (by decide) (fun c53 => ?_) (fun c53 => ?_)
      · skip
        refine lv_aload_n hx hb dX9_command_57 rfl (lv_at hl 1 rfl) ?_
        refine lv_dup hx hb dX9_command_58 rfl ?_
        refine g_get (ci := 11) (v := .int (zI (↑a : Int))) (C := RX9) (T := TX9) (N := 24) hx hb hts iU_X9 hown hK hM ⟨by omega, by omega⟩ hf30 rfl 21 (by decide) (hts _ u_1165) (fun _ h9 => h9) rfl dX9_command_59 ?_
        refine g_iconst hx hb dX9_command_62 ?_
        refine g_iadd hx hb dX9_command_63 ?_
        refine g_put (ci := 11) (v := .int (zI ((↑a : Int) + 1))) (ty := .int) (C := RX9) (T := TX9) (N := 24) hx hb hts iU_X9 tyX9 tyX9_ok nmX9 hown hK hM ⟨by omega, by omega⟩ hf30 rfl 21 (by decide) (hts _ u_1165) (fun _ h9 => h9) rfl (by decide +kernel) rfl rfl (Nat.le_of_ble_eq_true rfl) dX9_command_64 (fun f31 H locs hM hf33 o32 => ?_)
        have hf33 : f31 (h) = .inr (11, [.int (zI (Z 0)), .ref (h + 1), .ref (h + 2), .ref (h + 3), .ref (h + 4), .ref (h + 5), .ref (h + 6), .ref (h + 7), .ref (h + 8), .int (zI (Z 9)), .int (zI (Z 10)), .int (zI (Z 11)), .int (zI (Z 12)), .int (zI (Z 13)), .int (zI (Z 14)), .int (zI (Z 15)), .int (zI (Z 16)), .ref (h + 9), .ref (h + 10), .ref (h + 11), .int (zI (↑L : Int)), .int (zI ((↑a : Int) + 1)), .int (zI 0), .ref (h + 12)]) := hf33
        refine lv_aload_n hx hb dX9_command_67 rfl (lv_at hl 1 rfl) ?_
        refine g_get (ci := 11) (v := .ref (h + 12)) (C := RX9) (T := TX9) (N := 24) hx hb hts iU_X9 hown hK hM ⟨by omega, by omega⟩ hf33 rfl 23 (by decide) (hts _ u_1167) (fun _ h9 => h9) rfl dX9_command_68 ?_
        refine g_iconst hx hb dX9_command_71 ?_
        refine lv_iload_n hx hb dX9_command_72 rfl (lv_at hl 0 rfl) ?_
        refine g_bipush hx hb dX9_command_73 (by decide) ?_
        refine g_icmp_ne (tgt := 82) hx hb dX9_command_75 (by decide) (by decide) (by decide) (fun c75 => ?_) (fun c75 => ?_)
        · skip
          refine lv_iload_n hx hb dX9_command_82 rfl (lv_at hl 0 rfl) ?_
          refine g_bipush hx hb dX9_command_83 (by decide) ?_
          refine g_icmp_ne (tgt := 93) hx hb dX9_command_85 (by decide) (by decide) (by decide) (fun c85 => ?_) (fun c85 => ?_)
          · exact absurd c85 (by decide)
          · skip
            refine g_bipush hx hb dX9_command_88 (by decide) ?_
            refine lv_goto (tgt := 117) hx hb dX9_command_90 (by decide) ?_
            have hf34 := hC.kept ((o32 (h + 12) (by omega)).trans (o29 (h + 12) (by omega)))
            refine g_iast hx hb hK hM ⟨by omega, by omega⟩ hf34 (by decide) (by decide) (by decide) dX9_command_117 (fun f35 H locs hM ha37 o36 => ?_)
            refine lv_aload_n hx hb dX9_command_118 rfl (lv_at hl 1 rfl) ?_
            have hf38 : f35 (h) = .inr (11, [.int (zI (Z 0)), .ref (h + 1), .ref (h + 2), .ref (h + 3), .ref (h + 4), .ref (h + 5), .ref (h + 6), .ref (h + 7), .ref (h + 8), .int (zI (Z 9)), .int (zI (Z 10)), .int (zI (Z 11)), .int (zI (Z 12)), .int (zI (Z 13)), .int (zI (Z 14)), .int (zI (Z 15)), .int (zI (Z 16)), .ref (h + 9), .ref (h + 10), .ref (h + 11), .int (zI (↑L : Int)), .int (zI ((↑a : Int) + 1)), .int (zI 0), .ref (h + 12)]) := (o36 (h) (by omega)).trans hf33
            refine g_get (ci := 11) (v := .ref (h + 12)) (C := RX9) (T := TX9) (N := 24) hx hb hts iU_X9 hown hK hM ⟨by omega, by omega⟩ hf38 rfl 23 (by decide) (hts _ u_1167) (fun _ h9 => h9) rfl dX9_command_119 ?_
            refine g_iconst hx hb dX9_command_122 ?_
            refine lv_iload_n hx hb dX9_command_123 rfl (lv_at hl 0 rfl) ?_
            refine g_bipush hx hb dX9_command_124 (by decide) ?_
            refine g_icmp_ne (tgt := 133) hx hb dX9_command_126 (by decide) (by decide) (by decide) (fun c126 => ?_) (fun c126 => ?_)
            · skip
              refine lv_iload_n hx hb dX9_command_133 rfl (lv_at hl 0 rfl) ?_
              refine g_bipush hx hb dX9_command_134 (by decide) ?_
              refine g_icmp_eq (tgt := 145) hx hb dX9_command_136 (by decide) (by decide) (by decide) (fun c136 => ?_) (fun c136 => ?_)
              · exact absurd c136 (by decide)
              · skip
                refine lv_iload_n hx hb dX9_command_139 rfl (lv_at hl 0 rfl) ?_
                refine g_bipush hx hb dX9_command_140 (by decide) ?_
                refine g_icmp_ne (tgt := 166) hx hb dX9_command_142 (by decide) (by decide) (by decide) (fun c142 => ?_) (fun c142 => ?_)
                · skip
                  refine lv_aload_n hx hb dX9_command_166 rfl (lv_at hl 1 rfl) ?_
                  refine g_bipush hx hb dX9_command_167 (by decide) ?_
                  have hf39 := hIn.kept ((o36 (h + 11) (by omega)).trans ((o32 (h + 11) (by omega)).trans (o29 (h + 11) (by omega))))
                  have hC40 := c_X9_number l g b0 n f35 h Z In T L (a + 1) 7 hf38 hrg hf39 hTT hL htx (by omega) (by decide) (by decide)
                  refine g_callVi (ci := 11) (C := RX9) (T := TX9) (N := 24) (As := [.int (zI 7)]) (rest := [.int (zI 1), .ref (h + 12)]) ⟨hx, hb, hml, hown, hts⟩ hK hM hC40 (cuV (n := 1) hts u_1569 u_1566 u_10 (by decide) u_1568 us_70 ⟨Nat.le_of_ble_eq_true rfl, Nat.le_of_ble_eq_true rfl⟩) ⟨by omega, by omega⟩ hf38 rfl rfl hl.1 rfl (Nat.le_of_ble_eq_true rfl) dX9_command_169 ⟨Nat.zero_le _, Nat.zero_le _⟩ (fun r169 f41 H locs hM hp42 => ?_)
                  rcases hp42 with ⟨hnc43, hnc43r, hm44, o45⟩ | ⟨hnc46, hm47, o48⟩
                  · skip
                    subst hnc43r
                    have hnL48 := sNum_L (T := T) (L := L) (m := 7) (a := a + 1) (v := 0) (by omega)
                    have ho49 : f41 h = .inr (11, [.int (zI (Z 0)), .ref (h + 1), .ref (h + 2), .ref (h + 3), .ref (h + 4), .ref (h + 5), .ref (h + 6), .ref (h + 7), .ref (h + 8), .int (zI (Z 9)), .int (zI (Z 10)), .int (zI (Z 11)), .int (zI (Z 12)), .int (zI (Z 13)), .int (zI (Z 14)), .int (zI (Z 15)), .int (zI (Z 16)), .ref (h + 9), .ref (h + 10), .ref (h + 11), .int (zI (↑L : Int)), .int (zI (↑(sNum T L 7 (a + 1) 0).1 : Int)), .int (zI 0), .ref (h + 12)]) := hm44
                    have hf50 := ha37.kept (o45 (h + 12) (by omega))
                    refine g_iast hx hb hK hM ⟨by omega, by omega⟩ hf50 (by decide) (by decide) (by decide) dX9_command_172 (fun f51 H locs hM ha53 o52 => ?_)
                    refine lv_aload_n hx hb dX9_command_173 rfl (lv_at hl 1 rfl) ?_
                    have hf54 : f51 (h) = .inr (11, [.int (zI (Z 0)), .ref (h + 1), .ref (h + 2), .ref (h + 3), .ref (h + 4), .ref (h + 5), .ref (h + 6), .ref (h + 7), .ref (h + 8), .int (zI (Z 9)), .int (zI (Z 10)), .int (zI (Z 11)), .int (zI (Z 12)), .int (zI (Z 13)), .int (zI (Z 14)), .int (zI (Z 15)), .int (zI (Z 16)), .ref (h + 9), .ref (h + 10), .ref (h + 11), .int (zI (↑L : Int)), .int (zI (↑(sNum T L 7 (a + 1) 0).1 : Int)), .int (zI 0), .ref (h + 12)]) := (o52 (h) (by omega)).trans ho49
                    refine g_get (ci := 11) (v := .ref (h + 12)) (C := RX9) (T := TX9) (N := 24) hx hb hts iU_X9 hown hK hM ⟨by omega, by omega⟩ hf54 rfl 23 (by decide) (hts _ u_1167) (fun _ h9 => h9) rfl dX9_command_174 ?_
                    refine g_iconst hx hb dX9_command_177 ?_
                    refine g_iconst hx hb dX9_command_178 ?_
                    refine g_iast hx hb hK hM ⟨by omega, by omega⟩ ha53 (by decide) (by decide) (by decide) dX9_command_179 (fun f55 H locs hM ha57 o56 => ?_)
                    refine lv_aload_n hx hb dX9_command_180 rfl (lv_at hl 1 rfl) ?_
                    have hf58 : f55 (h) = .inr (11, [.int (zI (Z 0)), .ref (h + 1), .ref (h + 2), .ref (h + 3), .ref (h + 4), .ref (h + 5), .ref (h + 6), .ref (h + 7), .ref (h + 8), .int (zI (Z 9)), .int (zI (Z 10)), .int (zI (Z 11)), .int (zI (Z 12)), .int (zI (Z 13)), .int (zI (Z 14)), .int (zI (Z 15)), .int (zI (Z 16)), .ref (h + 9), .ref (h + 10), .ref (h + 11), .int (zI (↑L : Int)), .int (zI (↑(sNum T L 7 (a + 1) 0).1 : Int)), .int (zI 0), .ref (h + 12)]) := (o56 (h) (by omega)).trans hf54
                    refine g_get (ci := 11) (v := .ref (h + 12)) (C := RX9) (T := TX9) (N := 24) hx hb hts iU_X9 hown hK hM ⟨by omega, by omega⟩ hf58 rfl 23 (by decide) (hts _ u_1167) (fun _ h9 => h9) rfl dX9_command_181 ?_
                    refine g_iconst hx hb dX9_command_184 ?_
                    refine g_iconst hx hb dX9_command_185 ?_
                    refine g_iast hx hb hK hM ⟨by omega, by omega⟩ ha57 (by decide) (by decide) (by decide) dX9_command_186 (fun f59 H locs hM ha61 o60 => ?_)
                    refine lv_iload_n hx hb dX9_command_187 rfl (lv_at hl 0 rfl) ?_
                    refine g_bipush hx hb dX9_command_188 (by decide) ?_
                    refine g_icmp_ne (tgt := 220) hx hb dX9_command_190 (by decide) (by decide) (by decide) (fun c190 => ?_) (fun c190 => ?_)
                    · skip
                      refine lv_iload_n hx hb dX9_command_220 rfl (lv_at hl 0 rfl) ?_
                      refine g_bipush hx hb dX9_command_221 (by decide) ?_
                      refine g_icmp_eq (tgt := 233) hx hb dX9_command_223 (by decide) (by decide) (by decide) (fun c223 => ?_) (fun c223 => ?_)
                      · exact absurd c223 (by decide)
                      · skip
                        refine lv_iload_n hx hb dX9_command_226 rfl (lv_at hl 0 rfl) ?_
                        refine g_bipush hx hb dX9_command_227 (by decide) ?_
                        refine g_icmp_eq (tgt := 233) hx hb dX9_command_229 (by decide) (by decide) (by decide) (fun c229 => ?_) (fun c229 => ?_)
                        · exact absurd c229 (by decide)
                        · skip
                          have hf62 : f59 (h) = .inr (11, [.int (zI (Z 0)), .ref (h + 1), .ref (h + 2), .ref (h + 3), .ref (h + 4), .ref (h + 5), .ref (h + 6), .ref (h + 7), .ref (h + 8), .int (zI (Z 9)), .int (zI (Z 10)), .int (zI (Z 11)), .int (zI (Z 12)), .int (zI (Z 13)), .int (zI (Z 14)), .int (zI (Z 15)), .int (zI (Z 16)), .ref (h + 9), .ref (h + 10), .ref (h + 11), .int (zI (↑L : Int)), .int (zI (↑(sNum T L 7 (a + 1) 0).1 : Int)), .int (zI 0), .ref (h + 12)]) := (o60 (h) (by omega)).trans hf58
                          refine g_vret hx hb hr hlk hK hM dX9_command_232 ?_
                          have hS : sCmd T L a = (decide (a + 1 < (sNum T L 7 (a + 1) 0).1), (sNum T L 7 (a + 1) 0).1, 9, (sNum T L 7 (a + 1) 0).2, 0, 0) := by
                            unfold sCmd
                            rw [if_neg c13, if_pos c19]
                            unfold sNb
                            rfl
                          rw [hS]
                          exact Or.inl ⟨decide_eq_true hnc43, hf62, ⟨_, ha61, rfl, rfl, rfl, rfl⟩, (fun q hq => ((o60 (q) (by omega)).trans ((o56 (q) (by omega)).trans ((o52 (q) (by omega)).trans ((o45 (q) (by omega)).trans ((o36 (q) (by omega)).trans ((o32 (q) (by omega)).trans (o29 (q) (by omega)))))))))⟩
                    · exact absurd c190 (by decide)
                  · skip
                    have ho63 : f41 h = .inr (11, [.int (zI (Z 0)), .ref (h + 1), .ref (h + 2), .ref (h + 3), .ref (h + 4), .ref (h + 5), .ref (h + 6), .ref (h + 7), .ref (h + 8), .int (zI (Z 9)), .int (zI (Z 10)), .int (zI (Z 11)), .int (zI (Z 12)), .int (zI (Z 13)), .int (zI (Z 14)), .int (zI (Z 15)), .int (zI (Z 16)), .ref (h + 9), .ref (h + 10), .ref (h + 11), .int (zI (↑L : Int)), .int (zI (↑(a + 1) : Int)), .int (zI 1), .ref (h + 12)]) := hm47
                    obtain ⟨hnc46v, rfl⟩ : ∃ z : Int, r169 = zI z := ⟨r169.toInt, (zI_self _).symm⟩
                    have hf64 := ha37.kept (o48 (h + 12) (by omega))
                    refine g_iast hx hb hK hM ⟨by omega, by omega⟩ hf64 (by decide) (by decide) (by decide) dX9_command_172 (fun f65 H locs hM ha67 o66 => ?_)
                    refine lv_aload_n hx hb dX9_command_173 rfl (lv_at hl 1 rfl) ?_
                    have hf68 : f65 (h) = .inr (11, [.int (zI (Z 0)), .ref (h + 1), .ref (h + 2), .ref (h + 3), .ref (h + 4), .ref (h + 5), .ref (h + 6), .ref (h + 7), .ref (h + 8), .int (zI (Z 9)), .int (zI (Z 10)), .int (zI (Z 11)), .int (zI (Z 12)), .int (zI (Z 13)), .int (zI (Z 14)), .int (zI (Z 15)), .int (zI (Z 16)), .ref (h + 9), .ref (h + 10), .ref (h + 11), .int (zI (↑L : Int)), .int (zI (↑(a + 1) : Int)), .int (zI 1), .ref (h + 12)]) := (o66 (h) (by omega)).trans ho63
                    refine g_get (ci := 11) (v := .ref (h + 12)) (C := RX9) (T := TX9) (N := 24) hx hb hts iU_X9 hown hK hM ⟨by omega, by omega⟩ hf68 rfl 23 (by decide) (hts _ u_1167) (fun _ h9 => h9) rfl dX9_command_174 ?_
                    refine g_iconst hx hb dX9_command_177 ?_
                    refine g_iconst hx hb dX9_command_178 ?_
                    refine g_iast hx hb hK hM ⟨by omega, by omega⟩ ha67 (by decide) (by decide) (by decide) dX9_command_179 (fun f69 H locs hM ha71 o70 => ?_)
                    refine lv_aload_n hx hb dX9_command_180 rfl (lv_at hl 1 rfl) ?_
                    have hf72 : f69 (h) = .inr (11, [.int (zI (Z 0)), .ref (h + 1), .ref (h + 2), .ref (h + 3), .ref (h + 4), .ref (h + 5), .ref (h + 6), .ref (h + 7), .ref (h + 8), .int (zI (Z 9)), .int (zI (Z 10)), .int (zI (Z 11)), .int (zI (Z 12)), .int (zI (Z 13)), .int (zI (Z 14)), .int (zI (Z 15)), .int (zI (Z 16)), .ref (h + 9), .ref (h + 10), .ref (h + 11), .int (zI (↑L : Int)), .int (zI (↑(a + 1) : Int)), .int (zI 1), .ref (h + 12)]) := (o70 (h) (by omega)).trans hf68
                    refine g_get (ci := 11) (v := .ref (h + 12)) (C := RX9) (T := TX9) (N := 24) hx hb hts iU_X9 hown hK hM ⟨by omega, by omega⟩ hf72 rfl 23 (by decide) (hts _ u_1167) (fun _ h9 => h9) rfl dX9_command_181 ?_
                    refine g_iconst hx hb dX9_command_184 ?_
                    refine g_iconst hx hb dX9_command_185 ?_
                    refine g_iast hx hb hK hM ⟨by omega, by omega⟩ ha71 (by decide) (by decide) (by decide) dX9_command_186 (fun f73 H locs hM ha75 o74 => ?_)
                    refine lv_iload_n hx hb dX9_command_187 rfl (lv_at hl 0 rfl) ?_
                    refine g_bipush hx hb dX9_command_188 (by decide) ?_
                    refine g_icmp_ne (tgt := 220) hx hb dX9_command_190 (by decide) (by decide) (by decide) (fun c190 => ?_) (fun c190 => ?_)
                    · skip
                      refine lv_iload_n hx hb dX9_command_220 rfl (lv_at hl 0 rfl) ?_
                      refine g_bipush hx hb dX9_command_221 (by decide) ?_
                      refine g_icmp_eq (tgt := 233) hx hb dX9_command_223 (by decide) (by decide) (by decide) (fun c223 => ?_) (fun c223 => ?_)
                      · exact absurd c223 (by decide)
                      · skip
                        refine lv_iload_n hx hb dX9_command_226 rfl (lv_at hl 0 rfl) ?_
                        refine g_bipush hx hb dX9_command_227 (by decide) ?_
                        refine g_icmp_eq (tgt := 233) hx hb dX9_command_229 (by decide) (by decide) (by decide) (fun c229 => ?_) (fun c229 => ?_)
                        · exact absurd c229 (by decide)
                        · skip
                          have hf76 : f73 (h) = .inr (11, [.int (zI (Z 0)), .ref (h + 1), .ref (h + 2), .ref (h + 3), .ref (h + 4), .ref (h + 5), .ref (h + 6), .ref (h + 7), .ref (h + 8), .int (zI (Z 9)), .int (zI (Z 10)), .int (zI (Z 11)), .int (zI (Z 12)), .int (zI (Z 13)), .int (zI (Z 14)), .int (zI (Z 15)), .int (zI (Z 16)), .ref (h + 9), .ref (h + 10), .ref (h + 11), .int (zI (↑L : Int)), .int (zI (↑(a + 1) : Int)), .int (zI 1), .ref (h + 12)]) := (o74 (h) (by omega)).trans hf72
                          refine g_vret hx hb hr hlk hK hM dX9_command_232 ?_
                          have hS : sCmd T L a = (decide (a + 1 < (sNum T L 7 (a + 1) 0).1), (sNum T L 7 (a + 1) 0).1, 9, (sNum T L 7 (a + 1) 0).2, 0, 0) := by
                            unfold sCmd
                            rw [if_neg c13, if_pos c19]
                            unfold sNb
                            rfl
                          rw [hS]
                          have hps8 := hnc46
                          have hob8 := hf76
                          have hps9 : (sNum T L 7 (a + 1) 0).1 = a + 1 := hnc46
                          have hob9 : mdO f73 h (zR Z ↑L ↑(sNum T L 7 (a + 1) 0).1 1) := by rw [hps9]; exact hf76
                          exact Or.inr ⟨decide_eq_false (by have h7 := hnc46; omega), hob9, ⟨_, ha75⟩, (fun q hq => ((o74 (q) (by omega)).trans ((o70 (q) (by omega)).trans ((o66 (q) (by omega)).trans ((o48 (q) (by omega)).trans ((o36 (q) (by omega)).trans ((o32 (q) (by omega)).trans (o29 (q) (by omega)))))))))⟩
                    · exact absurd c190 (by decide)
                · exact absurd c142 (by decide)
            · exact absurd c126 (by decide)
        · exact absurd c75 (by decide)
      · exact absurd c53 (by decide)
    · skip
      refine lv_iload_n hx hb dX9_command_22 rfl (lv_at hl 0 rfl) ?_
      refine g_bipush hx hb dX9_command_23 (by decide) ?_
      refine g_icmp_eq (tgt := 44) hx hb dX9_command_25 (by decide) ⟨by omega, by omega⟩ (by decide) (fun c25 => ?_) (fun c25 => ?_)
      · skip
        rw [c25] at hl
        have hlt0 := nx_lt (T := T) (L := L) (a := a) (by omega)
        refine g_iconst hx hb dX9_command_44 ?_
        refine g_iorL (z1 := 0) (z2 := 0) (z3 := 0) hx hb dX9_command_45 (by decide) ?_
        refine g_put (ci := 11) (v := .int (zI 0)) (ty := .boolean) (C := RX9) (T := TX9) (N := 24) hx hb hts iU_X9 tyX9 tyX9_ok nmX9 hown hK hM ⟨by omega, by omega⟩ hO rfl 22 (by decide) (hts _ u_1166) (fun _ h9 => h9) rfl (by decide +kernel) (by decide) (by decide) (Nat.le_of_ble_eq_true rfl) dX9_command_46 (fun f77 H locs hM hf79 o78 => ?_)
        have hf79 : f77 (h) = .inr (11, [.int (zI (Z 0)), .ref (h + 1), .ref (h + 2), .ref (h + 3), .ref (h + 4), .ref (h + 5), .ref (h + 6), .ref (h + 7), .ref (h + 8), .int (zI (Z 9)), .int (zI (Z 10)), .int (zI (Z 11)), .int (zI (Z 12)), .int (zI (Z 13)), .int (zI (Z 14)), .int (zI (Z 15)), .int (zI (Z 16)), .ref (h + 9), .ref (h + 10), .ref (h + 11), .int (zI (↑L : Int)), .int (zI (↑a : Int)), .int (zI 0), .ref (h + 12)]) := hf79
        refine lv_aload_n hx hb dX9_command_49 rfl (lv_at hl 1 rfl) ?_
        refine g_get (ci := 11) (v := .int (zI 0)) (C := RX9) (T := TX9) (N := 24) hx hb hts iU_X9 hown hK hM ⟨by omega, by omega⟩ hf79 rfl 22 (by decide) (hts _ u_1166) (fun _ h9 => h9) rfl dX9_command_50 ?_
        refine g_if_eq (tgt := 57) hx hb dX9_command_53 (by decide) (by decide) (fun c53 => ?_) (fun c53 => ?_)
        · skip
          refine lv_aload_n hx hb dX9_command_57 rfl (lv_at hl 1 rfl) ?_
          refine lv_dup hx hb dX9_command_58 rfl ?_
          refine g_get (ci := 11) (v := .int (zI (↑a : Int))) (C := RX9) (T := TX9) (N := 24) hx hb hts iU_X9 hown hK hM ⟨by omega, by omega⟩ hf79 rfl 21 (by decide) (hts _ u_1165) (fun _ h9 => h9) rfl dX9_command_59 ?_
          refine g_iconst hx hb dX9_command_62 ?_
          refine g_iadd hx hb dX9_command_63 ?_
          refine g_put (ci := 11) (v := .int (zI ((↑a : Int) + 1))) (ty := .int) (C := RX9) (T := TX9) (N := 24) hx hb hts iU_X9 tyX9 tyX9_ok nmX9 hown hK hM ⟨by omega, by omega⟩ hf79 rfl 21 (by decide) (hts _ u_1165) (fun _ h9 => h9) rfl (by decide +kernel) rfl rfl (Nat.le_of_ble_eq_true rfl) dX9_command_64 (fun f80 H locs hM hf82 o81 => ?_)
          have hf82 : f80 (h) = .inr (11, [.int (zI (Z 0)), .ref (h + 1), .ref (h + 2), .ref (h + 3), .ref (h + 4), .ref (h + 5), .ref (h + 6), .ref (h + 7), .ref (h + 8), .int (zI (Z 9)), .int (zI (Z 10)), .int (zI (Z 11)), .int (zI (Z 12)), .int (zI (Z 13)), .int (zI (Z 14)), .int (zI (Z 15)), .int (zI (Z 16)), .ref (h + 9), .ref (h + 10), .ref (h + 11), .int (zI (↑L : Int)), .int (zI ((↑a : Int) + 1)), .int (zI 0), .ref (h + 12)]) := hf82
          refine lv_aload_n hx hb dX9_command_67 rfl (lv_at hl 1 rfl) ?_
          refine g_get (ci := 11) (v := .ref (h + 12)) (C := RX9) (T := TX9) (N := 24) hx hb hts iU_X9 hown hK hM ⟨by omega, by omega⟩ hf82 rfl 23 (by decide) (hts _ u_1167) (fun _ h9 => h9) rfl dX9_command_68 ?_
          refine g_iconst hx hb dX9_command_71 ?_
          refine lv_iload_n hx hb dX9_command_72 rfl (lv_at hl 0 rfl) ?_
          refine g_bipush hx hb dX9_command_73 (by decide) ?_
          refine g_icmp_ne (tgt := 82) hx hb dX9_command_75 (by decide) (by decide) (by decide) (fun c75 => ?_) (fun c75 => ?_)
          · skip
            refine lv_iload_n hx hb dX9_command_82 rfl (lv_at hl 0 rfl) ?_
            refine g_bipush hx hb dX9_command_83 (by decide) ?_
            refine g_icmp_ne (tgt := 93) hx hb dX9_command_85 (by decide) (by decide) (by decide) (fun c85 => ?_) (fun c85 => ?_)
            · skip
              refine lv_iload_n hx hb dX9_command_93 rfl (lv_at hl 0 rfl) ?_
              refine g_bipush hx hb dX9_command_94 (by decide) ?_
              refine g_icmp_ne (tgt := 104) hx hb dX9_command_96 (by decide) (by decide) (by decide) (fun c96 => ?_) (fun c96 => ?_)
              · exact absurd c96 (by decide)
              · skip
                refine g_bipush hx hb dX9_command_99 (by decide) ?_
                refine lv_goto (tgt := 117) hx hb dX9_command_101 (by decide) ?_
                have hf83 := hC.kept ((o81 (h + 12) (by omega)).trans (o78 (h + 12) (by omega)))
                refine g_iast hx hb hK hM ⟨by omega, by omega⟩ hf83 (by decide) (by decide) (by decide) dX9_command_117 (fun f84 H locs hM ha86 o85 => ?_)
                refine lv_aload_n hx hb dX9_command_118 rfl (lv_at hl 1 rfl) ?_
                have hf87 : f84 (h) = .inr (11, [.int (zI (Z 0)), .ref (h + 1), .ref (h + 2), .ref (h + 3), .ref (h + 4), .ref (h + 5), .ref (h + 6), .ref (h + 7), .ref (h + 8), .int (zI (Z 9)), .int (zI (Z 10)), .int (zI (Z 11)), .int (zI (Z 12)), .int (zI (Z 13)), .int (zI (Z 14)), .int (zI (Z 15)), .int (zI (Z 16)), .ref (h + 9), .ref (h + 10), .ref (h + 11), .int (zI (↑L : Int)), .int (zI ((↑a : Int) + 1)), .int (zI 0), .ref (h + 12)]) := (o85 (h) (by omega)).trans hf82
                refine g_get (ci := 11) (v := .ref (h + 12)) (C := RX9) (T := TX9) (N := 24) hx hb hts iU_X9 hown hK hM ⟨by omega, by omega⟩ hf87 rfl 23 (by decide) (hts _ u_1167) (fun _ h9 => h9) rfl dX9_command_119 ?_
                refine g_iconst hx hb dX9_command_122 ?_
                refine lv_iload_n hx hb dX9_command_123 rfl (lv_at hl 0 rfl) ?_
                refine g_bipush hx hb dX9_command_124 (by decide) ?_
                refine g_icmp_ne (tgt := 133) hx hb dX9_command_126 (by decide) (by decide) (by decide) (fun c126 => ?_) (fun c126 => ?_)
                · skip
                  refine lv_iload_n hx hb dX9_command_133 rfl (lv_at hl 0 rfl) ?_
                  refine g_bipush hx hb dX9_command_134 (by decide) ?_
                  refine g_icmp_eq (tgt := 145) hx hb dX9_command_136 (by decide) (by decide) (by decide) (fun c136 => ?_) (fun c136 => ?_)
                  · skip
                    refine lv_iload_n hx hb dX9_command_145 rfl (lv_at hl 0 rfl) ?_
                    refine g_bipush hx hb dX9_command_146 (by decide) ?_
                    refine g_icmp_ne (tgt := 159) hx hb dX9_command_148 (by decide) (by decide) (by decide) (fun c148 => ?_) (fun c148 => ?_)
                    · exact absurd c148 (by decide)
                    · skip
                      refine lv_aload_n hx hb dX9_command_151 rfl (lv_at hl 1 rfl) ?_
                      refine g_iconst hx hb dX9_command_152 ?_
                      have hf88 := hIn.kept ((o85 (h + 11) (by omega)).trans ((o81 (h + 11) (by omega)).trans (o78 (h + 11) (by omega))))
                      have hC89 := c_X9_number l g b0 n f84 h Z In T L (a + 1) 1 hf87 hrg hf88 hTT hL htx (by omega) (by decide) (by decide)
                      refine g_callVi (ci := 11) (C := RX9) (T := TX9) (N := 24) (As := [.int (zI 1)]) (rest := [.int (zI 1), .ref (h + 12)]) ⟨hx, hb, hml, hown, hts⟩ hK hM hC89 (cuV (n := 1) hts u_1569 u_1566 u_10 (by decide) u_1568 us_70 ⟨Nat.le_of_ble_eq_true rfl, Nat.le_of_ble_eq_true rfl⟩) ⟨by omega, by omega⟩ hf87 rfl rfl hl.1 rfl (Nat.le_of_ble_eq_true rfl) dX9_command_153 ⟨Nat.zero_le _, Nat.zero_le _⟩ (fun r153 f90 H locs hM hp91 => ?_)
                      rcases hp91 with ⟨hnc92, hnc92r, hm93, o94⟩ | ⟨hnc95, hm96, o97⟩
                      · skip
                        obtain ⟨hnc92d, hnc92q⟩ := sNum1_y hnc92
                        rw [hnc92q] at hm93 hnc92r
                        have hnc92r : r153 = zI (nx T L (a + 1) - 48) := hnc92r
                        subst hnc92r
                        have hnc92l := nx_lt (T := T) (L := L) (a := a + 1) (by have := hnc92d.1; omega)
                        have ho98 : f90 h = .inr (11, [.int (zI (Z 0)), .ref (h + 1), .ref (h + 2), .ref (h + 3), .ref (h + 4), .ref (h + 5), .ref (h + 6), .ref (h + 7), .ref (h + 8), .int (zI (Z 9)), .int (zI (Z 10)), .int (zI (Z 11)), .int (zI (Z 12)), .int (zI (Z 13)), .int (zI (Z 14)), .int (zI (Z 15)), .int (zI (Z 16)), .ref (h + 9), .ref (h + 10), .ref (h + 11), .int (zI (↑L : Int)), .int (zI ((↑(a + 1) : Int) + 1)), .int (zI 0), .ref (h + 12)]) := hm93
                        refine lv_goto (tgt := 172) hx hb dX9_command_156 (by decide) ?_
                        have hf99 := ha86.kept (o94 (h + 12) (by omega))
                        refine g_iast hx hb hK hM ⟨by omega, by omega⟩ hf99 (by decide) (by decide) (by decide) dX9_command_172 (fun f100 H locs hM ha102 o101 => ?_)
                        refine lv_aload_n hx hb dX9_command_173 rfl (lv_at hl 1 rfl) ?_
                        have hf103 : f100 (h) = .inr (11, [.int (zI (Z 0)), .ref (h + 1), .ref (h + 2), .ref (h + 3), .ref (h + 4), .ref (h + 5), .ref (h + 6), .ref (h + 7), .ref (h + 8), .int (zI (Z 9)), .int (zI (Z 10)), .int (zI (Z 11)), .int (zI (Z 12)), .int (zI (Z 13)), .int (zI (Z 14)), .int (zI (Z 15)), .int (zI (Z 16)), .ref (h + 9), .ref (h + 10), .ref (h + 11), .int (zI (↑L : Int)), .int (zI ((↑(a + 1) : Int) + 1)), .int (zI 0), .ref (h + 12)]) := (o101 (h) (by omega)).trans ho98
                        refine g_get (ci := 11) (v := .ref (h + 12)) (C := RX9) (T := TX9) (N := 24) hx hb hts iU_X9 hown hK hM ⟨by omega, by omega⟩ hf103 rfl 23 (by decide) (hts _ u_1167) (fun _ h9 => h9) rfl dX9_command_174 ?_
                        refine g_iconst hx hb dX9_command_177 ?_
                        refine g_iconst hx hb dX9_command_178 ?_
                        refine g_iast hx hb hK hM ⟨by omega, by omega⟩ ha102 (by decide) (by decide) (by decide) dX9_command_179 (fun f104 H locs hM ha106 o105 => ?_)
                        refine lv_aload_n hx hb dX9_command_180 rfl (lv_at hl 1 rfl) ?_
                        have hf107 : f104 (h) = .inr (11, [.int (zI (Z 0)), .ref (h + 1), .ref (h + 2), .ref (h + 3), .ref (h + 4), .ref (h + 5), .ref (h + 6), .ref (h + 7), .ref (h + 8), .int (zI (Z 9)), .int (zI (Z 10)), .int (zI (Z 11)), .int (zI (Z 12)), .int (zI (Z 13)), .int (zI (Z 14)), .int (zI (Z 15)), .int (zI (Z 16)), .ref (h + 9), .ref (h + 10), .ref (h + 11), .int (zI (↑L : Int)), .int (zI ((↑(a + 1) : Int) + 1)), .int (zI 0), .ref (h + 12)]) := (o105 (h) (by omega)).trans hf103
                        refine g_get (ci := 11) (v := .ref (h + 12)) (C := RX9) (T := TX9) (N := 24) hx hb hts iU_X9 hown hK hM ⟨by omega, by omega⟩ hf107 rfl 23 (by decide) (hts _ u_1167) (fun _ h9 => h9) rfl dX9_command_181 ?_
                        refine g_iconst hx hb dX9_command_184 ?_
                        refine g_iconst hx hb dX9_command_185 ?_
                        refine g_iast hx hb hK hM ⟨by omega, by omega⟩ ha106 (by decide) (by decide) (by decide) dX9_command_186 (fun f108 H locs hM ha110 o109 => ?_)
                        refine lv_iload_n hx hb dX9_command_187 rfl (lv_at hl 0 rfl) ?_
                        refine g_bipush hx hb dX9_command_188 (by decide) ?_
                        refine g_icmp_ne (tgt := 220) hx hb dX9_command_190 (by decide) (by decide) (by decide) (fun c190 => ?_) (fun c190 => ?_)
                        · skip
                          refine lv_iload_n hx hb dX9_command_220 rfl (lv_at hl 0 rfl) ?_
                          refine g_bipush hx hb dX9_command_221 (by decide) ?_
                          refine g_icmp_eq (tgt := 233) hx hb dX9_command_223 (by decide) (by decide) (by decide) (fun c223 => ?_) (fun c223 => ?_)
                          · skip
                            refine lv_aload_n hx hb dX9_command_233 rfl (lv_at hl 1 rfl) ?_
                            refine g_bipush hx hb dX9_command_234 (by decide) ?_
                            have hf111 : f108 (h) = .inr (11, [.int (zI (Z 0)), .ref (h + 1), .ref (h + 2), .ref (h + 3), .ref (h + 4), .ref (h + 5), .ref (h + 6), .ref (h + 7), .ref (h + 8), .int (zI (Z 9)), .int (zI (Z 10)), .int (zI (Z 11)), .int (zI (Z 12)), .int (zI (Z 13)), .int (zI (Z 14)), .int (zI (Z 15)), .int (zI (Z 16)), .ref (h + 9), .ref (h + 10), .ref (h + 11), .int (zI (↑L : Int)), .int (zI ((↑(a + 1) : Int) + 1)), .int (zI 0), .ref (h + 12)]) := (o109 (h) (by omega)).trans hf107
                            have hf112 := hf88.kept ((o109 (h + 11) (by omega)).trans ((o105 (h + 11) (by omega)).trans ((o101 (h + 11) (by omega)).trans (o94 (h + 11) (by omega)))))
                            have hC113 := c_X9_takes l g b0 n f108 h Z In T L (a + 1 + 1) 0 58 hf111 hrg hf112 hTT hL htx (by omega) (by decide) (by decide)
                            refine g_callVv (ci := 11) (C := RX9) (T := TX9) (N := 24) (As := [.int (zI 58)]) (rest := []) ⟨hx, hb, hml, hown, hts⟩ hK hM hC113 (cuV (n := 1) hts u_1579 u_1576 u_10 (by decide) u_1578 us_72 ⟨Nat.le_of_ble_eq_true rfl, Nat.le_of_ble_eq_true rfl⟩) ⟨by omega, by omega⟩ hf111 rfl rfl hl.1 rfl (Nat.le_of_ble_eq_true rfl) dX9_command_236 ⟨Nat.zero_le _, Nat.zero_le _⟩ (fun f114 H locs hM hp115 => ?_)
                            rcases hp115 with ⟨htc1160, htc116, hm117, o118⟩ | ⟨htc119, hm120, o121⟩
                            · skip
                              have htc116l := nx_lt (T := T) (L := L) (a := a + 1 + 1) (by omega)
                              have ho122 : f114 h = .inr (11, [.int (zI (Z 0)), .ref (h + 1), .ref (h + 2), .ref (h + 3), .ref (h + 4), .ref (h + 5), .ref (h + 6), .ref (h + 7), .ref (h + 8), .int (zI (Z 9)), .int (zI (Z 10)), .int (zI (Z 11)), .int (zI (Z 12)), .int (zI (Z 13)), .int (zI (Z 14)), .int (zI (Z 15)), .int (zI (Z 16)), .ref (h + 9), .ref (h + 10), .ref (h + 11), .int (zI (↑L : Int)), .int (zI ((↑(a + 1 + 1) : Int) + 1)), .int (zI 0), .ref (h + 12)]) := hm117
                              refine lv_aload_n hx hb dX9_command_239 rfl (lv_at hl 1 rfl) ?_
                              refine g_get (ci := 11) (v := .ref (h + 12)) (C := RX9) (T := TX9) (N := 24) hx hb hts iU_X9 hown hK hM ⟨by omega, by omega⟩ ho122 rfl 23 (by decide) (hts _ u_1167) (fun _ h9 => h9) rfl dX9_command_240 ?_
                              refine lv_iload_n hx hb dX9_command_243 rfl (lv_at hl 0 rfl) ?_
                              refine g_bipush hx hb dX9_command_244 (by decide) ?_
                              refine g_icmp_ne (tgt := 253) hx hb dX9_command_246 (by decide) (by decide) (by decide) (fun c246 => ?_) (fun c246 => ?_)
                              · exact absurd c246 (by decide)
                              · skip
                                refine g_iconst hx hb dX9_command_249 ?_
                                refine lv_goto (tgt := 254) hx hb dX9_command_250 (by decide) ?_
                                refine lv_aload_n hx hb dX9_command_254 rfl (lv_at hl 1 rfl) ?_
                                refine g_get (ci := 11) (v := .int (zI 0)) (C := RX9) (T := TX9) (N := 24) hx hb hts iU_X9 hown hK hM ⟨by omega, by omega⟩ ho122 rfl 22 (by decide) (hts _ u_1166) (fun _ h9 => h9) rfl dX9_command_255 ?_
                                refine g_if_eq (tgt := 265) hx hb dX9_command_258 (by decide) (by decide) (fun c258 => ?_) (fun c258 => ?_)
                                · skip
                                  refine lv_aload_n hx hb dX9_command_265 rfl (lv_at hl 1 rfl) ?_
                                  refine g_bipush hx hb dX9_command_266 (by decide) ?_
                                  have hf123 := hf112.kept (o118 (h + 11) (by omega))
                                  have hC124 := c_X9_number l g b0 n f114 h Z In T L (a + 1 + 2) 7 ho122 hrg hf123 hTT hL htx (by omega) (by decide) (by decide)
                                  refine g_callVi (ci := 11) (C := RX9) (T := TX9) (N := 24) (As := [.int (zI 7)]) (rest := [.int (zI 2), .ref (h + 12)]) ⟨hx, hb, hml, hown, hts⟩ hK hM hC124 (cuV (n := 1) hts u_1569 u_1566 u_10 (by decide) u_1568 us_70 ⟨Nat.le_of_ble_eq_true rfl, Nat.le_of_ble_eq_true rfl⟩) ⟨by omega, by omega⟩ ho122 rfl rfl hl.1 rfl (Nat.le_of_ble_eq_true rfl) dX9_command_268 ⟨Nat.zero_le _, Nat.zero_le _⟩ (fun r268 f125 H locs hM hp126 => ?_)
                                  rcases hp126 with ⟨hnc127, hnc127r, hm128, o129⟩ | ⟨hnc130, hm131, o132⟩
                                  · skip
                                    subst hnc127r
                                    have hnL132 := sNum_L (T := T) (L := L) (m := 7) (a := a + 1 + 2) (v := 0) (by omega)
                                    have ho133 : f125 h = .inr (11, [.int (zI (Z 0)), .ref (h + 1), .ref (h + 2), .ref (h + 3), .ref (h + 4), .ref (h + 5), .ref (h + 6), .ref (h + 7), .ref (h + 8), .int (zI (Z 9)), .int (zI (Z 10)), .int (zI (Z 11)), .int (zI (Z 12)), .int (zI (Z 13)), .int (zI (Z 14)), .int (zI (Z 15)), .int (zI (Z 16)), .ref (h + 9), .ref (h + 10), .ref (h + 11), .int (zI (↑L : Int)), .int (zI (↑(sNum T L 7 (a + 1 + 2) 0).1 : Int)), .int (zI 0), .ref (h + 12)]) := hm128
                                    have hf134 := ha110.kept ((o129 (h + 12) (by omega)).trans (o118 (h + 12) (by omega)))
                                    refine g_iast hx hb hK hM ⟨by omega, by omega⟩ hf134 (by decide) (by decide) (by decide) dX9_command_271 (fun f135 H locs hM ha137 o136 => ?_)
                                    have hf138 : f135 (h) = .inr (11, [.int (zI (Z 0)), .ref (h + 1), .ref (h + 2), .ref (h + 3), .ref (h + 4), .ref (h + 5), .ref (h + 6), .ref (h + 7), .ref (h + 8), .int (zI (Z 9)), .int (zI (Z 10)), .int (zI (Z 11)), .int (zI (Z 12)), .int (zI (Z 13)), .int (zI (Z 14)), .int (zI (Z 15)), .int (zI (Z 16)), .ref (h + 9), .ref (h + 10), .ref (h + 11), .int (zI (↑L : Int)), .int (zI (↑(sNum T L 7 (a + 1 + 2) 0).1 : Int)), .int (zI 0), .ref (h + 12)]) := (o136 (h) (by omega)).trans ho133
                                    refine g_vret hx hb hr hlk hK hM dX9_command_272 ?_
                                    have hS : sCmd T L a = (decide (a + 1 + 2 < (sNum T L 7 (a + 1 + 2) 0).1), (sNum T L 7 (a + 1 + 2) 0).1, 10, nx T L (a + 1) - 48, (sNum T L 7 (a + 1 + 2) 0).2, 0) := by
                                      unfold sCmd
                                      rw [if_neg c13, if_neg c19, if_pos c25]
                                      unfold sSp
                                      rw [if_pos (show dg T L (a + 1) from hnc92d)]
                                      rw [if_pos (show nx T L (a + 1 + 1) = 58 from htc116)]
                                    rw [hS]
                                    exact Or.inl ⟨decide_eq_true hnc127, hf138, ⟨_, ha137, rfl, rfl, rfl, rfl⟩, (fun q hq => ((o136 (q) (by omega)).trans ((o129 (q) (by omega)).trans ((o118 (q) (by omega)).trans ((o109 (q) (by omega)).trans ((o105 (q) (by omega)).trans ((o101 (q) (by omega)).trans ((o94 (q) (by omega)).trans ((o85 (q) (by omega)).trans ((o81 (q) (by omega)).trans (o78 (q) (by omega))))))))))))⟩
                                  · skip
                                    have ho139 : f125 h = .inr (11, [.int (zI (Z 0)), .ref (h + 1), .ref (h + 2), .ref (h + 3), .ref (h + 4), .ref (h + 5), .ref (h + 6), .ref (h + 7), .ref (h + 8), .int (zI (Z 9)), .int (zI (Z 10)), .int (zI (Z 11)), .int (zI (Z 12)), .int (zI (Z 13)), .int (zI (Z 14)), .int (zI (Z 15)), .int (zI (Z 16)), .ref (h + 9), .ref (h + 10), .ref (h + 11), .int (zI (↑L : Int)), .int (zI (↑(a + 1 + 2) : Int)), .int (zI 1), .ref (h + 12)]) := hm131
                                    obtain ⟨hnc130v, rfl⟩ : ∃ z : Int, r268 = zI z := ⟨r268.toInt, (zI_self _).symm⟩
                                    have hf140 := ha110.kept ((o132 (h + 12) (by omega)).trans (o118 (h + 12) (by omega)))
                                    refine g_iast hx hb hK hM ⟨by omega, by omega⟩ hf140 (by decide) (by decide) (by decide) dX9_command_271 (fun f141 H locs hM ha143 o142 => ?_)
                                    have hf144 : f141 (h) = .inr (11, [.int (zI (Z 0)), .ref (h + 1), .ref (h + 2), .ref (h + 3), .ref (h + 4), .ref (h + 5), .ref (h + 6), .ref (h + 7), .ref (h + 8), .int (zI (Z 9)), .int (zI (Z 10)), .int (zI (Z 11)), .int (zI (Z 12)), .int (zI (Z 13)), .int (zI (Z 14)), .int (zI (Z 15)), .int (zI (Z 16)), .ref (h + 9), .ref (h + 10), .ref (h + 11), .int (zI (↑L : Int)), .int (zI (↑(a + 1 + 2) : Int)), .int (zI 1), .ref (h + 12)]) := (o142 (h) (by omega)).trans ho139
                                    refine g_vret hx hb hr hlk hK hM dX9_command_272 ?_
                                    have hS : sCmd T L a = (decide (a + 1 + 2 < (sNum T L 7 (a + 1 + 2) 0).1), (sNum T L 7 (a + 1 + 2) 0).1, 10, nx T L (a + 1) - 48, (sNum T L 7 (a + 1 + 2) 0).2, 0) := by
                                      unfold sCmd
                                      rw [if_neg c13, if_neg c19, if_pos c25]
                                      unfold sSp
                                      rw [if_pos (show dg T L (a + 1) from hnc92d)]
                                      rw [if_pos (show nx T L (a + 1 + 1) = 58 from htc116)]
                                    rw [hS]
                                    have hps8 := hnc130
                                    have hob8 := hf144
                                    have hps9 : (sNum T L 7 ((a + 1 + 2)) 0).1 = (a + 1 + 2) := hnc130
                                    have hob9 : mdO f141 h (zR Z ↑L ↑(sNum T L 7 ((a + 1 + 2)) 0).1 1) := by rw [hps9]; exact hf144
                                    exact Or.inr ⟨decide_eq_false (by have h7 := hnc130; omega), hob9, ⟨_, ha143⟩, (fun q hq => ((o142 (q) (by omega)).trans ((o132 (q) (by omega)).trans ((o118 (q) (by omega)).trans ((o109 (q) (by omega)).trans ((o105 (q) (by omega)).trans ((o101 (q) (by omega)).trans ((o94 (q) (by omega)).trans ((o85 (q) (by omega)).trans ((o81 (q) (by omega)).trans (o78 (q) (by omega))))))))))))⟩
                                · exact absurd c258 (by decide)
                            · skip
                              have ho145 : f114 h = .inr (11, [.int (zI (Z 0)), .ref (h + 1), .ref (h + 2), .ref (h + 3), .ref (h + 4), .ref (h + 5), .ref (h + 6), .ref (h + 7), .ref (h + 8), .int (zI (Z 9)), .int (zI (Z 10)), .int (zI (Z 11)), .int (zI (Z 12)), .int (zI (Z 13)), .int (zI (Z 14)), .int (zI (Z 15)), .int (zI (Z 16)), .ref (h + 9), .ref (h + 10), .ref (h + 11), .int (zI (↑L : Int)), .int (zI (↑(a + 1 + 1) : Int)), .int (zI 1), .ref (h + 12)]) := hm120
                              refine lv_aload_n hx hb dX9_command_239 rfl (lv_at hl 1 rfl) ?_
                              refine g_get (ci := 11) (v := .ref (h + 12)) (C := RX9) (T := TX9) (N := 24) hx hb hts iU_X9 hown hK hM ⟨by omega, by omega⟩ ho145 rfl 23 (by decide) (hts _ u_1167) (fun _ h9 => h9) rfl dX9_command_240 ?_
                              refine lv_iload_n hx hb dX9_command_243 rfl (lv_at hl 0 rfl) ?_
                              refine g_bipush hx hb dX9_command_244 (by decide) ?_
                              refine g_icmp_ne (tgt := 253) hx hb dX9_command_246 (by decide) (by decide) (by decide) (fun c246 => ?_) (fun c246 => ?_)
                              · exact absurd c246 (by decide)
                              · skip
                                refine g_iconst hx hb dX9_command_249 ?_
                                refine lv_goto (tgt := 254) hx hb dX9_command_250 (by decide) ?_
                                refine lv_aload_n hx hb dX9_command_254 rfl (lv_at hl 1 rfl) ?_
                                refine g_get (ci := 11) (v := .int (zI 1)) (C := RX9) (T := TX9) (N := 24) hx hb hts iU_X9 hown hK hM ⟨by omega, by omega⟩ ho145 rfl 22 (by decide) (hts _ u_1166) (fun _ h9 => h9) rfl dX9_command_255 ?_
                                refine g_if_eq (tgt := 265) hx hb dX9_command_258 (by decide) (by decide) (fun c258 => ?_) (fun c258 => ?_)
                                · exact absurd c258 (by decide)
                                · skip
                                  refine g_iconst hx hb dX9_command_261 ?_
                                  refine lv_goto (tgt := 271) hx hb dX9_command_262 (by decide) ?_
                                  have hf146 := ha110.kept (o121 (h + 12) (by omega))
                                  refine g_iast hx hb hK hM ⟨by omega, by omega⟩ hf146 (by decide) (by decide) (by decide) dX9_command_271 (fun f147 H locs hM ha149 o148 => ?_)
                                  have hf150 : f147 (h) = .inr (11, [.int (zI (Z 0)), .ref (h + 1), .ref (h + 2), .ref (h + 3), .ref (h + 4), .ref (h + 5), .ref (h + 6), .ref (h + 7), .ref (h + 8), .int (zI (Z 9)), .int (zI (Z 10)), .int (zI (Z 11)), .int (zI (Z 12)), .int (zI (Z 13)), .int (zI (Z 14)), .int (zI (Z 15)), .int (zI (Z 16)), .ref (h + 9), .ref (h + 10), .ref (h + 11), .int (zI (↑L : Int)), .int (zI (↑(a + 1 + 1) : Int)), .int (zI 1), .ref (h + 12)]) := (o148 (h) (by omega)).trans ho145
                                  refine g_vret hx hb hr hlk hK hM dX9_command_272 ?_
                                  have hS : sCmd T L a = (false, a + 1 + 1, 0, 0, 0, 0) := by
                                    unfold sCmd
                                    rw [if_neg c13, if_neg c19, if_pos c25]
                                    unfold sSp
                                    rw [if_pos (show dg T L (a + 1) from hnc92d)]
                                    rw [if_neg (show ¬ (nx T L (a + 1 + 1) = 58) from (fun hh => htc119 ⟨rfl, hh⟩))]
                                  rw [hS]
                                  exact Or.inr ⟨rfl, hf150, ⟨_, ha149⟩, (fun q hq => ((o148 (q) (by omega)).trans ((o121 (q) (by omega)).trans ((o109 (q) (by omega)).trans ((o105 (q) (by omega)).trans ((o101 (q) (by omega)).trans ((o94 (q) (by omega)).trans ((o85 (q) (by omega)).trans ((o81 (q) (by omega)).trans (o78 (q) (by omega)))))))))))⟩
                          · exact absurd (by decide) c223
                        · exact absurd c190 (by decide)
                      · skip
                        have ho151 : f90 h = .inr (11, [.int (zI (Z 0)), .ref (h + 1), .ref (h + 2), .ref (h + 3), .ref (h + 4), .ref (h + 5), .ref (h + 6), .ref (h + 7), .ref (h + 8), .int (zI (Z 9)), .int (zI (Z 10)), .int (zI (Z 11)), .int (zI (Z 12)), .int (zI (Z 13)), .int (zI (Z 14)), .int (zI (Z 15)), .int (zI (Z 16)), .ref (h + 9), .ref (h + 10), .ref (h + 11), .int (zI (↑L : Int)), .int (zI (↑(a + 1) : Int)), .int (zI 1), .ref (h + 12)]) := hm96
                        obtain ⟨hnc95v, rfl⟩ : ∃ z : Int, r153 = zI z := ⟨r153.toInt, (zI_self _).symm⟩
                        refine lv_goto (tgt := 172) hx hb dX9_command_156 (by decide) ?_
                        have hf152 := ha86.kept (o97 (h + 12) (by omega))
                        refine g_iast hx hb hK hM ⟨by omega, by omega⟩ hf152 (by decide) (by decide) (by decide) dX9_command_172 (fun f153 H locs hM ha155 o154 => ?_)
                        refine lv_aload_n hx hb dX9_command_173 rfl (lv_at hl 1 rfl) ?_
                        have hf156 : f153 (h) = .inr (11, [.int (zI (Z 0)), .ref (h + 1), .ref (h + 2), .ref (h + 3), .ref (h + 4), .ref (h + 5), .ref (h + 6), .ref (h + 7), .ref (h + 8), .int (zI (Z 9)), .int (zI (Z 10)), .int (zI (Z 11)), .int (zI (Z 12)), .int (zI (Z 13)), .int (zI (Z 14)), .int (zI (Z 15)), .int (zI (Z 16)), .ref (h + 9), .ref (h + 10), .ref (h + 11), .int (zI (↑L : Int)), .int (zI (↑(a + 1) : Int)), .int (zI 1), .ref (h + 12)]) := (o154 (h) (by omega)).trans ho151
                        refine g_get (ci := 11) (v := .ref (h + 12)) (C := RX9) (T := TX9) (N := 24) hx hb hts iU_X9 hown hK hM ⟨by omega, by omega⟩ hf156 rfl 23 (by decide) (hts _ u_1167) (fun _ h9 => h9) rfl dX9_command_174 ?_
                        refine g_iconst hx hb dX9_command_177 ?_
                        refine g_iconst hx hb dX9_command_178 ?_
                        refine g_iast hx hb hK hM ⟨by omega, by omega⟩ ha155 (by decide) (by decide) (by decide) dX9_command_179 (fun f157 H locs hM ha159 o158 => ?_)
                        refine lv_aload_n hx hb dX9_command_180 rfl (lv_at hl 1 rfl) ?_
                        have hf160 : f157 (h) = .inr (11, [.int (zI (Z 0)), .ref (h + 1), .ref (h + 2), .ref (h + 3), .ref (h + 4), .ref (h + 5), .ref (h + 6), .ref (h + 7), .ref (h + 8), .int (zI (Z 9)), .int (zI (Z 10)), .int (zI (Z 11)), .int (zI (Z 12)), .int (zI (Z 13)), .int (zI (Z 14)), .int (zI (Z 15)), .int (zI (Z 16)), .ref (h + 9), .ref (h + 10), .ref (h + 11), .int (zI (↑L : Int)), .int (zI (↑(a + 1) : Int)), .int (zI 1), .ref (h + 12)]) := (o158 (h) (by omega)).trans hf156
                        refine g_get (ci := 11) (v := .ref (h + 12)) (C := RX9) (T := TX9) (N := 24) hx hb hts iU_X9 hown hK hM ⟨by omega, by omega⟩ hf160 rfl 23 (by decide) (hts _ u_1167) (fun _ h9 => h9) rfl dX9_command_181 ?_
                        refine g_iconst hx hb dX9_command_184 ?_
                        refine g_iconst hx hb dX9_command_185 ?_
                        refine g_iast hx hb hK hM ⟨by omega, by omega⟩ ha159 (by decide) (by decide) (by decide) dX9_command_186 (fun f161 H locs hM ha163 o162 => ?_)
                        refine lv_iload_n hx hb dX9_command_187 rfl (lv_at hl 0 rfl) ?_
                        refine g_bipush hx hb dX9_command_188 (by decide) ?_
                        refine g_icmp_ne (tgt := 220) hx hb dX9_command_190 (by decide) (by decide) (by decide) (fun c190 => ?_) (fun c190 => ?_)
                        · skip
                          refine lv_iload_n hx hb dX9_command_220 rfl (lv_at hl 0 rfl) ?_
                          refine g_bipush hx hb dX9_command_221 (by decide) ?_
                          refine g_icmp_eq (tgt := 233) hx hb dX9_command_223 (by decide) (by decide) (by decide) (fun c223 => ?_) (fun c223 => ?_)
                          · skip
                            refine lv_aload_n hx hb dX9_command_233 rfl (lv_at hl 1 rfl) ?_
                            refine g_bipush hx hb dX9_command_234 (by decide) ?_
                            have hf164 : f161 (h) = .inr (11, [.int (zI (Z 0)), .ref (h + 1), .ref (h + 2), .ref (h + 3), .ref (h + 4), .ref (h + 5), .ref (h + 6), .ref (h + 7), .ref (h + 8), .int (zI (Z 9)), .int (zI (Z 10)), .int (zI (Z 11)), .int (zI (Z 12)), .int (zI (Z 13)), .int (zI (Z 14)), .int (zI (Z 15)), .int (zI (Z 16)), .ref (h + 9), .ref (h + 10), .ref (h + 11), .int (zI (↑L : Int)), .int (zI (↑(a + 1) : Int)), .int (zI 1), .ref (h + 12)]) := (o162 (h) (by omega)).trans hf160
                            have hf165 := hf88.kept ((o162 (h + 11) (by omega)).trans ((o158 (h + 11) (by omega)).trans ((o154 (h + 11) (by omega)).trans (o97 (h + 11) (by omega)))))
                            have hC166 := c_X9_takes l g b0 n f161 h Z In T L (a + 1) 1 58 hf164 hrg hf165 hTT hL htx (by omega) (by decide) (by decide)
                            refine g_callVv (ci := 11) (C := RX9) (T := TX9) (N := 24) (As := [.int (zI 58)]) (rest := []) ⟨hx, hb, hml, hown, hts⟩ hK hM hC166 (cuV (n := 1) hts u_1579 u_1576 u_10 (by decide) u_1578 us_72 ⟨Nat.le_of_ble_eq_true rfl, Nat.le_of_ble_eq_true rfl⟩) ⟨by omega, by omega⟩ hf164 rfl rfl hl.1 rfl (Nat.le_of_ble_eq_true rfl) dX9_command_236 ⟨Nat.zero_le _, Nat.zero_le _⟩ (fun f167 H locs hM hp168 => ?_)
                            rcases hp168 with ⟨htc1690, htc169, hm170, o171⟩ | ⟨htc172, hm173, o174⟩
                            · skip
                              exact absurd htc1690 (by decide)
                            · skip
                              have ho175 : f167 h = .inr (11, [.int (zI (Z 0)), .ref (h + 1), .ref (h + 2), .ref (h + 3), .ref (h + 4), .ref (h + 5), .ref (h + 6), .ref (h + 7), .ref (h + 8), .int (zI (Z 9)), .int (zI (Z 10)), .int (zI (Z 11)), .int (zI (Z 12)), .int (zI (Z 13)), .int (zI (Z 14)), .int (zI (Z 15)), .int (zI (Z 16)), .ref (h + 9), .ref (h + 10), .ref (h + 11), .int (zI (↑L : Int)), .int (zI (↑(a + 1) : Int)), .int (zI 1), .ref (h + 12)]) := hm173
                              refine lv_aload_n hx hb dX9_command_239 rfl (lv_at hl 1 rfl) ?_
                              refine g_get (ci := 11) (v := .ref (h + 12)) (C := RX9) (T := TX9) (N := 24) hx hb hts iU_X9 hown hK hM ⟨by omega, by omega⟩ ho175 rfl 23 (by decide) (hts _ u_1167) (fun _ h9 => h9) rfl dX9_command_240 ?_
                              refine lv_iload_n hx hb dX9_command_243 rfl (lv_at hl 0 rfl) ?_
                              refine g_bipush hx hb dX9_command_244 (by decide) ?_
                              refine g_icmp_ne (tgt := 253) hx hb dX9_command_246 (by decide) (by decide) (by decide) (fun c246 => ?_) (fun c246 => ?_)
                              · exact absurd c246 (by decide)
                              · skip
                                refine g_iconst hx hb dX9_command_249 ?_
                                refine lv_goto (tgt := 254) hx hb dX9_command_250 (by decide) ?_
                                refine lv_aload_n hx hb dX9_command_254 rfl (lv_at hl 1 rfl) ?_
                                refine g_get (ci := 11) (v := .int (zI 1)) (C := RX9) (T := TX9) (N := 24) hx hb hts iU_X9 hown hK hM ⟨by omega, by omega⟩ ho175 rfl 22 (by decide) (hts _ u_1166) (fun _ h9 => h9) rfl dX9_command_255 ?_
                                refine g_if_eq (tgt := 265) hx hb dX9_command_258 (by decide) (by decide) (fun c258 => ?_) (fun c258 => ?_)
                                · exact absurd c258 (by decide)
                                · skip
                                  refine g_iconst hx hb dX9_command_261 ?_
                                  refine lv_goto (tgt := 271) hx hb dX9_command_262 (by decide) ?_
                                  have hf176 := ha163.kept (o174 (h + 12) (by omega))
                                  refine g_iast hx hb hK hM ⟨by omega, by omega⟩ hf176 (by decide) (by decide) (by decide) dX9_command_271 (fun f177 H locs hM ha179 o178 => ?_)
                                  have hf180 : f177 (h) = .inr (11, [.int (zI (Z 0)), .ref (h + 1), .ref (h + 2), .ref (h + 3), .ref (h + 4), .ref (h + 5), .ref (h + 6), .ref (h + 7), .ref (h + 8), .int (zI (Z 9)), .int (zI (Z 10)), .int (zI (Z 11)), .int (zI (Z 12)), .int (zI (Z 13)), .int (zI (Z 14)), .int (zI (Z 15)), .int (zI (Z 16)), .ref (h + 9), .ref (h + 10), .ref (h + 11), .int (zI (↑L : Int)), .int (zI (↑(a + 1) : Int)), .int (zI 1), .ref (h + 12)]) := (o178 (h) (by omega)).trans ho175
                                  refine g_vret hx hb hr hlk hK hM dX9_command_272 ?_
                                  have hS : sCmd T L a = (false, a + 1, 0, 0, 0, 0) := by
                                    unfold sCmd
                                    rw [if_neg c13, if_neg c19, if_pos c25]
                                    unfold sSp
                                    rw [if_neg (show ¬ (dg T L (a + 1)) from (sNum1_n hnc95))]
                                  rw [hS]
                                  exact Or.inr ⟨rfl, hf180, ⟨_, ha179⟩, (fun q hq => ((o178 (q) (by omega)).trans ((o174 (q) (by omega)).trans ((o162 (q) (by omega)).trans ((o158 (q) (by omega)).trans ((o154 (q) (by omega)).trans ((o97 (q) (by omega)).trans ((o85 (q) (by omega)).trans ((o81 (q) (by omega)).trans (o78 (q) (by omega)))))))))))⟩
                          · exact absurd (by decide) c223
                        · exact absurd c190 (by decide)
                  · exact absurd (by decide) c136
                · exact absurd c126 (by decide)
            · exact absurd c85 (by decide)
          · exact absurd c75 (by decide)
        · exact absurd c53 (by decide)
      · skip
        refine lv_iload_n hx hb dX9_command_28 rfl (lv_at hl 0 rfl) ?_
        refine g_bipush hx hb dX9_command_29 (by decide) ?_
        refine g_icmp_eq (tgt := 44) hx hb dX9_command_31 (by decide) ⟨by omega, by omega⟩ (by decide) (fun c31 => ?_) (fun c31 => ?_)
        · skip
          rw [c31] at hl
          have hlt0 := nx_lt (T := T) (L := L) (a := a) (by omega)
          refine g_iconst hx hb dX9_command_44 ?_
          refine g_iorL (z1 := 0) (z2 := 0) (z3 := 0) hx hb dX9_command_45 (by decide) ?_
          refine g_put (ci := 11) (v := .int (zI 0)) (ty := .boolean) (C := RX9) (T := TX9) (N := 24) hx hb hts iU_X9 tyX9 tyX9_ok nmX9 hown hK hM ⟨by omega, by omega⟩ hO rfl 22 (by decide) (hts _ u_1166) (fun _ h9 => h9) rfl (by decide +kernel) (by decide) (by decide) (Nat.le_of_ble_eq_true rfl) dX9_command_46 (fun f181 H locs hM hf183 o182 => ?_)
          have hf183 : f181 (h) = .inr (11, [.int (zI (Z 0)), .ref (h + 1), .ref (h + 2), .ref (h + 3), .ref (h + 4), .ref (h + 5), .ref (h + 6), .ref (h + 7), .ref (h + 8), .int (zI (Z 9)), .int (zI (Z 10)), .int (zI (Z 11)), .int (zI (Z 12)), .int (zI (Z 13)), .int (zI (Z 14)), .int (zI (Z 15)), .int (zI (Z 16)), .ref (h + 9), .ref (h + 10), .ref (h + 11), .int (zI (↑L : Int)), .int (zI (↑a : Int)), .int (zI 0), .ref (h + 12)]) := hf183
          refine lv_aload_n hx hb dX9_command_49 rfl (lv_at hl 1 rfl) ?_
          refine g_get (ci := 11) (v := .int (zI 0)) (C := RX9) (T := TX9) (N := 24) hx hb hts iU_X9 hown hK hM ⟨by omega, by omega⟩ hf183 rfl 22 (by decide) (hts _ u_1166) (fun _ h9 => h9) rfl dX9_command_50 ?_
          refine g_if_eq (tgt := 57) hx hb dX9_command_53 (by decide) (by decide) (fun c53 => ?_) (fun c53 => ?_)
          · skip
            refine lv_aload_n hx hb dX9_command_57 rfl (lv_at hl 1 rfl) ?_
            refine lv_dup hx hb dX9_command_58 rfl ?_
            refine g_get (ci := 11) (v := .int (zI (↑a : Int))) (C := RX9) (T := TX9) (N := 24) hx hb hts iU_X9 hown hK hM ⟨by omega, by omega⟩ hf183 rfl 21 (by decide) (hts _ u_1165) (fun _ h9 => h9) rfl dX9_command_59 ?_
            refine g_iconst hx hb dX9_command_62 ?_
            refine g_iadd hx hb dX9_command_63 ?_
            refine g_put (ci := 11) (v := .int (zI ((↑a : Int) + 1))) (ty := .int) (C := RX9) (T := TX9) (N := 24) hx hb hts iU_X9 tyX9 tyX9_ok nmX9 hown hK hM ⟨by omega, by omega⟩ hf183 rfl 21 (by decide) (hts _ u_1165) (fun _ h9 => h9) rfl (by decide +kernel) rfl rfl (Nat.le_of_ble_eq_true rfl) dX9_command_64 (fun f184 H locs hM hf186 o185 => ?_)
            have hf186 : f184 (h) = .inr (11, [.int (zI (Z 0)), .ref (h + 1), .ref (h + 2), .ref (h + 3), .ref (h + 4), .ref (h + 5), .ref (h + 6), .ref (h + 7), .ref (h + 8), .int (zI (Z 9)), .int (zI (Z 10)), .int (zI (Z 11)), .int (zI (Z 12)), .int (zI (Z 13)), .int (zI (Z 14)), .int (zI (Z 15)), .int (zI (Z 16)), .ref (h + 9), .ref (h + 10), .ref (h + 11), .int (zI (↑L : Int)), .int (zI ((↑a : Int) + 1)), .int (zI 0), .ref (h + 12)]) := hf186
            refine lv_aload_n hx hb dX9_command_67 rfl (lv_at hl 1 rfl) ?_
            refine g_get (ci := 11) (v := .ref (h + 12)) (C := RX9) (T := TX9) (N := 24) hx hb hts iU_X9 hown hK hM ⟨by omega, by omega⟩ hf186 rfl 23 (by decide) (hts _ u_1167) (fun _ h9 => h9) rfl dX9_command_68 ?_
            refine g_iconst hx hb dX9_command_71 ?_
            refine lv_iload_n hx hb dX9_command_72 rfl (lv_at hl 0 rfl) ?_
            refine g_bipush hx hb dX9_command_73 (by decide) ?_
            refine g_icmp_ne (tgt := 82) hx hb dX9_command_75 (by decide) (by decide) (by decide) (fun c75 => ?_) (fun c75 => ?_)
            · skip
              refine lv_iload_n hx hb dX9_command_82 rfl (lv_at hl 0 rfl) ?_
              refine g_bipush hx hb dX9_command_83 (by decide) ?_
              refine g_icmp_ne (tgt := 93) hx hb dX9_command_85 (by decide) (by decide) (by decide) (fun c85 => ?_) (fun c85 => ?_)
              · skip
                refine lv_iload_n hx hb dX9_command_93 rfl (lv_at hl 0 rfl) ?_
                refine g_bipush hx hb dX9_command_94 (by decide) ?_
                refine g_icmp_ne (tgt := 104) hx hb dX9_command_96 (by decide) (by decide) (by decide) (fun c96 => ?_) (fun c96 => ?_)
                · skip
                  refine lv_iload_n hx hb dX9_command_104 rfl (lv_at hl 0 rfl) ?_
                  refine g_bipush hx hb dX9_command_105 (by decide) ?_
                  refine g_icmp_ne (tgt := 115) hx hb dX9_command_107 (by decide) (by decide) (by decide) (fun c107 => ?_) (fun c107 => ?_)
                  · exact absurd c107 (by decide)
                  · skip
                    refine g_bipush hx hb dX9_command_110 (by decide) ?_
                    refine lv_goto (tgt := 117) hx hb dX9_command_112 (by decide) ?_
                    have hf187 := hC.kept ((o185 (h + 12) (by omega)).trans (o182 (h + 12) (by omega)))
                    refine g_iast hx hb hK hM ⟨by omega, by omega⟩ hf187 (by decide) (by decide) (by decide) dX9_command_117 (fun f188 H locs hM ha190 o189 => ?_)
                    refine lv_aload_n hx hb dX9_command_118 rfl (lv_at hl 1 rfl) ?_
                    have hf191 : f188 (h) = .inr (11, [.int (zI (Z 0)), .ref (h + 1), .ref (h + 2), .ref (h + 3), .ref (h + 4), .ref (h + 5), .ref (h + 6), .ref (h + 7), .ref (h + 8), .int (zI (Z 9)), .int (zI (Z 10)), .int (zI (Z 11)), .int (zI (Z 12)), .int (zI (Z 13)), .int (zI (Z 14)), .int (zI (Z 15)), .int (zI (Z 16)), .ref (h + 9), .ref (h + 10), .ref (h + 11), .int (zI (↑L : Int)), .int (zI ((↑a : Int) + 1)), .int (zI 0), .ref (h + 12)]) := (o189 (h) (by omega)).trans hf186
                    refine g_get (ci := 11) (v := .ref (h + 12)) (C := RX9) (T := TX9) (N := 24) hx hb hts iU_X9 hown hK hM ⟨by omega, by omega⟩ hf191 rfl 23 (by decide) (hts _ u_1167) (fun _ h9 => h9) rfl dX9_command_119 ?_
                    refine g_iconst hx hb dX9_command_122 ?_
                    refine lv_iload_n hx hb dX9_command_123 rfl (lv_at hl 0 rfl) ?_
                    refine g_bipush hx hb dX9_command_124 (by decide) ?_
                    refine g_icmp_ne (tgt := 133) hx hb dX9_command_126 (by decide) (by decide) (by decide) (fun c126 => ?_) (fun c126 => ?_)
                    · skip
                      refine lv_iload_n hx hb dX9_command_133 rfl (lv_at hl 0 rfl) ?_
                      refine g_bipush hx hb dX9_command_134 (by decide) ?_
                      refine g_icmp_eq (tgt := 145) hx hb dX9_command_136 (by decide) (by decide) (by decide) (fun c136 => ?_) (fun c136 => ?_)
                      · exact absurd c136 (by decide)
                      · skip
                        refine lv_iload_n hx hb dX9_command_139 rfl (lv_at hl 0 rfl) ?_
                        refine g_bipush hx hb dX9_command_140 (by decide) ?_
                        refine g_icmp_ne (tgt := 166) hx hb dX9_command_142 (by decide) (by decide) (by decide) (fun c142 => ?_) (fun c142 => ?_)
                        · exact absurd c142 (by decide)
                        · skip
                          refine lv_iload_n hx hb dX9_command_145 rfl (lv_at hl 0 rfl) ?_
                          refine g_bipush hx hb dX9_command_146 (by decide) ?_
                          refine g_icmp_ne (tgt := 159) hx hb dX9_command_148 (by decide) (by decide) (by decide) (fun c148 => ?_) (fun c148 => ?_)
                          · skip
                            refine lv_aload_n hx hb dX9_command_159 rfl (lv_at hl 1 rfl) ?_
                            have hf192 := hIn.kept ((o189 (h + 11) (by omega)).trans ((o185 (h + 11) (by omega)).trans (o182 (h + 11) (by omega))))
                            have hC193 := c_X9_place l g b0 n f188 h Z In T L (a + 1)  hf191 hrg hf192 hTT hL htx (by omega) 
                            refine g_callVi (ci := 11) (C := RX9) (T := TX9) (N := 24) (As := []) (rest := [.int (zI 1), .ref (h + 12)]) ⟨hx, hb, hml, hown, hts⟩ hK hM hC193 (cuV (n := 0) hts u_1575 u_1572 u_10 (by decide) u_1574 us_71 ⟨Nat.le_of_ble_eq_true rfl, Nat.le_of_ble_eq_true rfl⟩) ⟨by omega, by omega⟩ hf191 rfl rfl hl.1 rfl (Nat.le_of_ble_eq_true rfl) dX9_command_160 ⟨Nat.zero_le _, Nat.zero_le _⟩ (fun r160 f194 H locs hM hp195 => ?_)
                            rcases hp195 with ⟨hpc196, rfl, hm197, o198⟩ | ⟨hpc199, hm200, o201⟩
                            · skip
                              have hpc196l := plG_lt hpc196
                              have ho202 : f194 h = .inr (11, [.int (zI (Z 0)), .ref (h + 1), .ref (h + 2), .ref (h + 3), .ref (h + 4), .ref (h + 5), .ref (h + 6), .ref (h + 7), .ref (h + 8), .int (zI (Z 9)), .int (zI (Z 10)), .int (zI (Z 11)), .int (zI (Z 12)), .int (zI (Z 13)), .int (zI (Z 14)), .int (zI (Z 15)), .int (zI (Z 16)), .ref (h + 9), .ref (h + 10), .ref (h + 11), .int (zI (↑L : Int)), .int (zI ((↑(a + 1) : Int) + 1)), .int (zI 0), .ref (h + 12)]) := hm197
                              refine lv_goto (tgt := 172) hx hb dX9_command_163 (by decide) ?_
                              have hf203 := ha190.kept (o198 (h + 12) (by omega))
                              refine g_iast hx hb hK hM ⟨by omega, by omega⟩ hf203 (by decide) (by decide) (by decide) dX9_command_172 (fun f204 H locs hM ha206 o205 => ?_)
                              refine lv_aload_n hx hb dX9_command_173 rfl (lv_at hl 1 rfl) ?_
                              have hf207 : f204 (h) = .inr (11, [.int (zI (Z 0)), .ref (h + 1), .ref (h + 2), .ref (h + 3), .ref (h + 4), .ref (h + 5), .ref (h + 6), .ref (h + 7), .ref (h + 8), .int (zI (Z 9)), .int (zI (Z 10)), .int (zI (Z 11)), .int (zI (Z 12)), .int (zI (Z 13)), .int (zI (Z 14)), .int (zI (Z 15)), .int (zI (Z 16)), .ref (h + 9), .ref (h + 10), .ref (h + 11), .int (zI (↑L : Int)), .int (zI ((↑(a + 1) : Int) + 1)), .int (zI 0), .ref (h + 12)]) := (o205 (h) (by omega)).trans ho202
                              refine g_get (ci := 11) (v := .ref (h + 12)) (C := RX9) (T := TX9) (N := 24) hx hb hts iU_X9 hown hK hM ⟨by omega, by omega⟩ hf207 rfl 23 (by decide) (hts _ u_1167) (fun _ h9 => h9) rfl dX9_command_174 ?_
                              refine g_iconst hx hb dX9_command_177 ?_
                              refine g_iconst hx hb dX9_command_178 ?_
                              refine g_iast hx hb hK hM ⟨by omega, by omega⟩ ha206 (by decide) (by decide) (by decide) dX9_command_179 (fun f208 H locs hM ha210 o209 => ?_)
                              refine lv_aload_n hx hb dX9_command_180 rfl (lv_at hl 1 rfl) ?_
                              have hf211 : f208 (h) = .inr (11, [.int (zI (Z 0)), .ref (h + 1), .ref (h + 2), .ref (h + 3), .ref (h + 4), .ref (h + 5), .ref (h + 6), .ref (h + 7), .ref (h + 8), .int (zI (Z 9)), .int (zI (Z 10)), .int (zI (Z 11)), .int (zI (Z 12)), .int (zI (Z 13)), .int (zI (Z 14)), .int (zI (Z 15)), .int (zI (Z 16)), .ref (h + 9), .ref (h + 10), .ref (h + 11), .int (zI (↑L : Int)), .int (zI ((↑(a + 1) : Int) + 1)), .int (zI 0), .ref (h + 12)]) := (o209 (h) (by omega)).trans hf207
                              refine g_get (ci := 11) (v := .ref (h + 12)) (C := RX9) (T := TX9) (N := 24) hx hb hts iU_X9 hown hK hM ⟨by omega, by omega⟩ hf211 rfl 23 (by decide) (hts _ u_1167) (fun _ h9 => h9) rfl dX9_command_181 ?_
                              refine g_iconst hx hb dX9_command_184 ?_
                              refine g_iconst hx hb dX9_command_185 ?_
                              refine g_iast hx hb hK hM ⟨by omega, by omega⟩ ha210 (by decide) (by decide) (by decide) dX9_command_186 (fun f212 H locs hM ha214 o213 => ?_)
                              refine lv_iload_n hx hb dX9_command_187 rfl (lv_at hl 0 rfl) ?_
                              refine g_bipush hx hb dX9_command_188 (by decide) ?_
                              refine g_icmp_ne (tgt := 220) hx hb dX9_command_190 (by decide) (by decide) (by decide) (fun c190 => ?_) (fun c190 => ?_)
                              · exact absurd c190 (by decide)
                              · skip
                                refine lv_aload_n hx hb dX9_command_193 rfl (lv_at hl 1 rfl) ?_
                                refine g_bipush hx hb dX9_command_194 (by decide) ?_
                                have hf215 : f212 (h) = .inr (11, [.int (zI (Z 0)), .ref (h + 1), .ref (h + 2), .ref (h + 3), .ref (h + 4), .ref (h + 5), .ref (h + 6), .ref (h + 7), .ref (h + 8), .int (zI (Z 9)), .int (zI (Z 10)), .int (zI (Z 11)), .int (zI (Z 12)), .int (zI (Z 13)), .int (zI (Z 14)), .int (zI (Z 15)), .int (zI (Z 16)), .ref (h + 9), .ref (h + 10), .ref (h + 11), .int (zI (↑L : Int)), .int (zI ((↑(a + 1) : Int) + 1)), .int (zI 0), .ref (h + 12)]) := (o213 (h) (by omega)).trans hf211
                                have hf216 := hf192.kept ((o213 (h + 11) (by omega)).trans ((o209 (h + 11) (by omega)).trans ((o205 (h + 11) (by omega)).trans (o198 (h + 11) (by omega)))))
                                have hC217 := c_X9_takes l g b0 n f212 h Z In T L (a + 1 + 1) 0 62 hf215 hrg hf216 hTT hL htx (by omega) (by decide) (by decide)
                                refine g_callVv (ci := 11) (C := RX9) (T := TX9) (N := 24) (As := [.int (zI 62)]) (rest := []) ⟨hx, hb, hml, hown, hts⟩ hK hM hC217 (cuV (n := 1) hts u_1579 u_1576 u_10 (by decide) u_1578 us_72 ⟨Nat.le_of_ble_eq_true rfl, Nat.le_of_ble_eq_true rfl⟩) ⟨by omega, by omega⟩ hf215 rfl rfl hl.1 rfl (Nat.le_of_ble_eq_true rfl) dX9_command_196 ⟨Nat.zero_le _, Nat.zero_le _⟩ (fun f218 H locs hM hp219 => ?_)
                                rcases hp219 with ⟨htc2200, htc220, hm221, o222⟩ | ⟨htc223, hm224, o225⟩
                                · skip
                                  have htc220l := nx_lt (T := T) (L := L) (a := a + 1 + 1) (by omega)
                                  have ho226 : f218 h = .inr (11, [.int (zI (Z 0)), .ref (h + 1), .ref (h + 2), .ref (h + 3), .ref (h + 4), .ref (h + 5), .ref (h + 6), .ref (h + 7), .ref (h + 8), .int (zI (Z 9)), .int (zI (Z 10)), .int (zI (Z 11)), .int (zI (Z 12)), .int (zI (Z 13)), .int (zI (Z 14)), .int (zI (Z 15)), .int (zI (Z 16)), .ref (h + 9), .ref (h + 10), .ref (h + 11), .int (zI (↑L : Int)), .int (zI ((↑(a + 1 + 1) : Int) + 1)), .int (zI 0), .ref (h + 12)]) := hm221
                                  refine lv_aload_n hx hb dX9_command_199 rfl (lv_at hl 1 rfl) ?_
                                  refine g_get (ci := 11) (v := .ref (h + 12)) (C := RX9) (T := TX9) (N := 24) hx hb hts iU_X9 hown hK hM ⟨by omega, by omega⟩ ho226 rfl 23 (by decide) (hts _ u_1167) (fun _ h9 => h9) rfl dX9_command_200 ?_
                                  refine g_iconst hx hb dX9_command_203 ?_
                                  refine lv_aload_n hx hb dX9_command_204 rfl (lv_at hl 1 rfl) ?_
                                  refine g_get (ci := 11) (v := .int (zI 0)) (C := RX9) (T := TX9) (N := 24) hx hb hts iU_X9 hown hK hM ⟨by omega, by omega⟩ ho226 rfl 22 (by decide) (hts _ u_1166) (fun _ h9 => h9) rfl dX9_command_205 ?_
                                  refine g_if_eq (tgt := 215) hx hb dX9_command_208 (by decide) (by decide) (fun c208 => ?_) (fun c208 => ?_)
                                  · skip
                                    refine lv_aload_n hx hb dX9_command_215 rfl (lv_at hl 1 rfl) ?_
                                    have hf227 := hf216.kept (o222 (h + 11) (by omega))
                                    have hC228 := c_X9_place l g b0 n f218 h Z In T L (a + 1 + 2)  ho226 hrg hf227 hTT hL htx (by omega) 
                                    refine g_callVi (ci := 11) (C := RX9) (T := TX9) (N := 24) (As := []) (rest := [.int (zI 2), .ref (h + 12)]) ⟨hx, hb, hml, hown, hts⟩ hK hM hC228 (cuV (n := 0) hts u_1575 u_1572 u_10 (by decide) u_1574 us_71 ⟨Nat.le_of_ble_eq_true rfl, Nat.le_of_ble_eq_true rfl⟩) ⟨by omega, by omega⟩ ho226 rfl rfl hl.1 rfl (Nat.le_of_ble_eq_true rfl) dX9_command_216 ⟨Nat.zero_le _, Nat.zero_le _⟩ (fun r216 f229 H locs hM hp230 => ?_)
                                    rcases hp230 with ⟨hpc231, rfl, hm232, o233⟩ | ⟨hpc234, hm235, o236⟩
                                    · skip
                                      have hpc231l := plG_lt hpc231
                                      have ho237 : f229 h = .inr (11, [.int (zI (Z 0)), .ref (h + 1), .ref (h + 2), .ref (h + 3), .ref (h + 4), .ref (h + 5), .ref (h + 6), .ref (h + 7), .ref (h + 8), .int (zI (Z 9)), .int (zI (Z 10)), .int (zI (Z 11)), .int (zI (Z 12)), .int (zI (Z 13)), .int (zI (Z 14)), .int (zI (Z 15)), .int (zI (Z 16)), .ref (h + 9), .ref (h + 10), .ref (h + 11), .int (zI (↑L : Int)), .int (zI ((↑(a + 1 + 2) : Int) + 1)), .int (zI 0), .ref (h + 12)]) := hm232
                                      have hf238 := ha214.kept ((o233 (h + 12) (by omega)).trans (o222 (h + 12) (by omega)))
                                      refine g_iast hx hb hK hM ⟨by omega, by omega⟩ hf238 (by decide) (by decide) (by decide) dX9_command_219 (fun f239 H locs hM ha241 o240 => ?_)
                                      refine lv_iload_n hx hb dX9_command_220 rfl (lv_at hl 0 rfl) ?_
                                      refine g_bipush hx hb dX9_command_221 (by decide) ?_
                                      refine g_icmp_eq (tgt := 233) hx hb dX9_command_223 (by decide) (by decide) (by decide) (fun c223 => ?_) (fun c223 => ?_)
                                      · exact absurd c223 (by decide)
                                      · skip
                                        refine lv_iload_n hx hb dX9_command_226 rfl (lv_at hl 0 rfl) ?_
                                        refine g_bipush hx hb dX9_command_227 (by decide) ?_
                                        refine g_icmp_eq (tgt := 233) hx hb dX9_command_229 (by decide) (by decide) (by decide) (fun c229 => ?_) (fun c229 => ?_)
                                        · skip
                                          refine lv_aload_n hx hb dX9_command_233 rfl (lv_at hl 1 rfl) ?_
                                          refine g_bipush hx hb dX9_command_234 (by decide) ?_
                                          have hf242 : f239 (h) = .inr (11, [.int (zI (Z 0)), .ref (h + 1), .ref (h + 2), .ref (h + 3), .ref (h + 4), .ref (h + 5), .ref (h + 6), .ref (h + 7), .ref (h + 8), .int (zI (Z 9)), .int (zI (Z 10)), .int (zI (Z 11)), .int (zI (Z 12)), .int (zI (Z 13)), .int (zI (Z 14)), .int (zI (Z 15)), .int (zI (Z 16)), .ref (h + 9), .ref (h + 10), .ref (h + 11), .int (zI (↑L : Int)), .int (zI ((↑(a + 1 + 2) : Int) + 1)), .int (zI 0), .ref (h + 12)]) := (o240 (h) (by omega)).trans ho237
                                          have hf243 := hf227.kept ((o240 (h + 11) (by omega)).trans (o233 (h + 11) (by omega)))
                                          have hC244 := c_X9_takes l g b0 n f239 h Z In T L (a + 1 + 3) 0 58 hf242 hrg hf243 hTT hL htx (by omega) (by decide) (by decide)
                                          refine g_callVv (ci := 11) (C := RX9) (T := TX9) (N := 24) (As := [.int (zI 58)]) (rest := []) ⟨hx, hb, hml, hown, hts⟩ hK hM hC244 (cuV (n := 1) hts u_1579 u_1576 u_10 (by decide) u_1578 us_72 ⟨Nat.le_of_ble_eq_true rfl, Nat.le_of_ble_eq_true rfl⟩) ⟨by omega, by omega⟩ hf242 rfl rfl hl.1 rfl (Nat.le_of_ble_eq_true rfl) dX9_command_236 ⟨Nat.zero_le _, Nat.zero_le _⟩ (fun f245 H locs hM hp246 => ?_)
                                          rcases hp246 with ⟨htc2470, htc247, hm248, o249⟩ | ⟨htc250, hm251, o252⟩
                                          · skip
                                            have htc247l := nx_lt (T := T) (L := L) (a := a + 1 + 3) (by omega)
                                            have ho253 : f245 h = .inr (11, [.int (zI (Z 0)), .ref (h + 1), .ref (h + 2), .ref (h + 3), .ref (h + 4), .ref (h + 5), .ref (h + 6), .ref (h + 7), .ref (h + 8), .int (zI (Z 9)), .int (zI (Z 10)), .int (zI (Z 11)), .int (zI (Z 12)), .int (zI (Z 13)), .int (zI (Z 14)), .int (zI (Z 15)), .int (zI (Z 16)), .ref (h + 9), .ref (h + 10), .ref (h + 11), .int (zI (↑L : Int)), .int (zI ((↑(a + 1 + 3) : Int) + 1)), .int (zI 0), .ref (h + 12)]) := hm248
                                            refine lv_aload_n hx hb dX9_command_239 rfl (lv_at hl 1 rfl) ?_
                                            refine g_get (ci := 11) (v := .ref (h + 12)) (C := RX9) (T := TX9) (N := 24) hx hb hts iU_X9 hown hK hM ⟨by omega, by omega⟩ ho253 rfl 23 (by decide) (hts _ u_1167) (fun _ h9 => h9) rfl dX9_command_240 ?_
                                            refine lv_iload_n hx hb dX9_command_243 rfl (lv_at hl 0 rfl) ?_
                                            refine g_bipush hx hb dX9_command_244 (by decide) ?_
                                            refine g_icmp_ne (tgt := 253) hx hb dX9_command_246 (by decide) (by decide) (by decide) (fun c246 => ?_) (fun c246 => ?_)
                                            · skip
                                              refine g_iconst hx hb dX9_command_253 ?_
                                              refine lv_aload_n hx hb dX9_command_254 rfl (lv_at hl 1 rfl) ?_
                                              refine g_get (ci := 11) (v := .int (zI 0)) (C := RX9) (T := TX9) (N := 24) hx hb hts iU_X9 hown hK hM ⟨by omega, by omega⟩ ho253 rfl 22 (by decide) (hts _ u_1166) (fun _ h9 => h9) rfl dX9_command_255 ?_
                                              refine g_if_eq (tgt := 265) hx hb dX9_command_258 (by decide) (by decide) (fun c258 => ?_) (fun c258 => ?_)
                                              · skip
                                                refine lv_aload_n hx hb dX9_command_265 rfl (lv_at hl 1 rfl) ?_
                                                refine g_bipush hx hb dX9_command_266 (by decide) ?_
                                                have hf254 := hf243.kept (o249 (h + 11) (by omega))
                                                have hC255 := c_X9_number l g b0 n f245 h Z In T L (a + 1 + 4) 7 ho253 hrg hf254 hTT hL htx (by omega) (by decide) (by decide)
                                                refine g_callVi (ci := 11) (C := RX9) (T := TX9) (N := 24) (As := [.int (zI 7)]) (rest := [.int (zI 3), .ref (h + 12)]) ⟨hx, hb, hml, hown, hts⟩ hK hM hC255 (cuV (n := 1) hts u_1569 u_1566 u_10 (by decide) u_1568 us_70 ⟨Nat.le_of_ble_eq_true rfl, Nat.le_of_ble_eq_true rfl⟩) ⟨by omega, by omega⟩ ho253 rfl rfl hl.1 rfl (Nat.le_of_ble_eq_true rfl) dX9_command_268 ⟨Nat.zero_le _, Nat.zero_le _⟩ (fun r268 f256 H locs hM hp257 => ?_)
                                                rcases hp257 with ⟨hnc258, hnc258r, hm259, o260⟩ | ⟨hnc261, hm262, o263⟩
                                                · skip
                                                  subst hnc258r
                                                  have hnL263 := sNum_L (T := T) (L := L) (m := 7) (a := a + 1 + 4) (v := 0) (by omega)
                                                  have ho264 : f256 h = .inr (11, [.int (zI (Z 0)), .ref (h + 1), .ref (h + 2), .ref (h + 3), .ref (h + 4), .ref (h + 5), .ref (h + 6), .ref (h + 7), .ref (h + 8), .int (zI (Z 9)), .int (zI (Z 10)), .int (zI (Z 11)), .int (zI (Z 12)), .int (zI (Z 13)), .int (zI (Z 14)), .int (zI (Z 15)), .int (zI (Z 16)), .ref (h + 9), .ref (h + 10), .ref (h + 11), .int (zI (↑L : Int)), .int (zI (↑(sNum T L 7 (a + 1 + 4) 0).1 : Int)), .int (zI 0), .ref (h + 12)]) := hm259
                                                  have hf265 := ha241.kept ((o260 (h + 12) (by omega)).trans (o249 (h + 12) (by omega)))
                                                  refine g_iast hx hb hK hM ⟨by omega, by omega⟩ hf265 (by decide) (by decide) (by decide) dX9_command_271 (fun f266 H locs hM ha268 o267 => ?_)
                                                  have hf269 : f266 (h) = .inr (11, [.int (zI (Z 0)), .ref (h + 1), .ref (h + 2), .ref (h + 3), .ref (h + 4), .ref (h + 5), .ref (h + 6), .ref (h + 7), .ref (h + 8), .int (zI (Z 9)), .int (zI (Z 10)), .int (zI (Z 11)), .int (zI (Z 12)), .int (zI (Z 13)), .int (zI (Z 14)), .int (zI (Z 15)), .int (zI (Z 16)), .ref (h + 9), .ref (h + 10), .ref (h + 11), .int (zI (↑L : Int)), .int (zI (↑(sNum T L 7 (a + 1 + 4) 0).1 : Int)), .int (zI 0), .ref (h + 12)]) := (o267 (h) (by omega)).trans ho264
                                                  refine g_vret hx hb hr hlk hK hM dX9_command_272 ?_
                                                  have hS : sCmd T L a = (decide (a + 1 + 4 < (sNum T L 7 (a + 1 + 4) 0).1), (sNum T L 7 (a + 1 + 4) 0).1, 11, plV T L (a + 1), plV T L (a + 1 + 2), (sNum T L 7 (a + 1 + 4) 0).2) := by
                                                    unfold sCmd
                                                    rw [if_neg c13, if_neg c19, if_neg c25, if_pos c31]
                                                    unfold sMo
                                                    rw [if_pos (show plG T L (a + 1) from hpc196)]
                                                    rw [if_pos (show nx T L (a + 1 + 1) = 62 from htc220)]
                                                    rw [if_pos (show plG T L (a + 1 + 2) from hpc231)]
                                                    rw [if_pos (show nx T L (a + 1 + 3) = 58 from htc247)]
                                                  rw [hS]
                                                  exact Or.inl ⟨decide_eq_true hnc258, hf269, ⟨_, ha268, rfl, rfl, rfl, rfl⟩, (fun q hq => ((o267 (q) (by omega)).trans ((o260 (q) (by omega)).trans ((o249 (q) (by omega)).trans ((o240 (q) (by omega)).trans ((o233 (q) (by omega)).trans ((o222 (q) (by omega)).trans ((o213 (q) (by omega)).trans ((o209 (q) (by omega)).trans ((o205 (q) (by omega)).trans ((o198 (q) (by omega)).trans ((o189 (q) (by omega)).trans ((o185 (q) (by omega)).trans (o182 (q) (by omega)))))))))))))))⟩
                                                · skip
                                                  have ho270 : f256 h = .inr (11, [.int (zI (Z 0)), .ref (h + 1), .ref (h + 2), .ref (h + 3), .ref (h + 4), .ref (h + 5), .ref (h + 6), .ref (h + 7), .ref (h + 8), .int (zI (Z 9)), .int (zI (Z 10)), .int (zI (Z 11)), .int (zI (Z 12)), .int (zI (Z 13)), .int (zI (Z 14)), .int (zI (Z 15)), .int (zI (Z 16)), .ref (h + 9), .ref (h + 10), .ref (h + 11), .int (zI (↑L : Int)), .int (zI (↑(a + 1 + 4) : Int)), .int (zI 1), .ref (h + 12)]) := hm262
                                                  obtain ⟨hnc261v, rfl⟩ : ∃ z : Int, r268 = zI z := ⟨r268.toInt, (zI_self _).symm⟩
                                                  have hf271 := ha241.kept ((o263 (h + 12) (by omega)).trans (o249 (h + 12) (by omega)))
                                                  refine g_iast hx hb hK hM ⟨by omega, by omega⟩ hf271 (by decide) (by decide) (by decide) dX9_command_271 (fun f272 H locs hM ha274 o273 => ?_)
                                                  have hf275 : f272 (h) = .inr (11, [.int (zI (Z 0)), .ref (h + 1), .ref (h + 2), .ref (h + 3), .ref (h + 4), .ref (h + 5), .ref (h + 6), .ref (h + 7), .ref (h + 8), .int (zI (Z 9)), .int (zI (Z 10)), .int (zI (Z 11)), .int (zI (Z 12)), .int (zI (Z 13)), .int (zI (Z 14)), .int (zI (Z 15)), .int (zI (Z 16)), .ref (h + 9), .ref (h + 10), .ref (h + 11), .int (zI (↑L : Int)), .int (zI (↑(a + 1 + 4) : Int)), .int (zI 1), .ref (h + 12)]) := (o273 (h) (by omega)).trans ho270
                                                  refine g_vret hx hb hr hlk hK hM dX9_command_272 ?_
                                                  have hS : sCmd T L a = (decide (a + 1 + 4 < (sNum T L 7 (a + 1 + 4) 0).1), (sNum T L 7 (a + 1 + 4) 0).1, 11, plV T L (a + 1), plV T L (a + 1 + 2), (sNum T L 7 (a + 1 + 4) 0).2) := by
                                                    unfold sCmd
                                                    rw [if_neg c13, if_neg c19, if_neg c25, if_pos c31]
                                                    unfold sMo
                                                    rw [if_pos (show plG T L (a + 1) from hpc196)]
                                                    rw [if_pos (show nx T L (a + 1 + 1) = 62 from htc220)]
                                                    rw [if_pos (show plG T L (a + 1 + 2) from hpc231)]
                                                    rw [if_pos (show nx T L (a + 1 + 3) = 58 from htc247)]
                                                  rw [hS]
                                                  have hps8 := hnc261
                                                  have hob8 := hf275
                                                  have hps9 : (sNum T L 7 ((a + 1 + 4)) 0).1 = (a + 1 + 4) := hnc261
                                                  have hob9 : mdO f272 h (zR Z ↑L ↑(sNum T L 7 ((a + 1 + 4)) 0).1 1) := by rw [hps9]; exact hf275
                                                  exact Or.inr ⟨decide_eq_false (by have h7 := hnc261; omega), hob9, ⟨_, ha274⟩, (fun q hq => ((o273 (q) (by omega)).trans ((o263 (q) (by omega)).trans ((o249 (q) (by omega)).trans ((o240 (q) (by omega)).trans ((o233 (q) (by omega)).trans ((o222 (q) (by omega)).trans ((o213 (q) (by omega)).trans ((o209 (q) (by omega)).trans ((o205 (q) (by omega)).trans ((o198 (q) (by omega)).trans ((o189 (q) (by omega)).trans ((o185 (q) (by omega)).trans (o182 (q) (by omega)))))))))))))))⟩
                                              · exact absurd c258 (by decide)
                                            · exact absurd c246 (by decide)
                                          · skip
                                            have ho276 : f245 h = .inr (11, [.int (zI (Z 0)), .ref (h + 1), .ref (h + 2), .ref (h + 3), .ref (h + 4), .ref (h + 5), .ref (h + 6), .ref (h + 7), .ref (h + 8), .int (zI (Z 9)), .int (zI (Z 10)), .int (zI (Z 11)), .int (zI (Z 12)), .int (zI (Z 13)), .int (zI (Z 14)), .int (zI (Z 15)), .int (zI (Z 16)), .ref (h + 9), .ref (h + 10), .ref (h + 11), .int (zI (↑L : Int)), .int (zI (↑(a + 1 + 3) : Int)), .int (zI 1), .ref (h + 12)]) := hm251
                                            refine lv_aload_n hx hb dX9_command_239 rfl (lv_at hl 1 rfl) ?_
                                            refine g_get (ci := 11) (v := .ref (h + 12)) (C := RX9) (T := TX9) (N := 24) hx hb hts iU_X9 hown hK hM ⟨by omega, by omega⟩ ho276 rfl 23 (by decide) (hts _ u_1167) (fun _ h9 => h9) rfl dX9_command_240 ?_
                                            refine lv_iload_n hx hb dX9_command_243 rfl (lv_at hl 0 rfl) ?_
                                            refine g_bipush hx hb dX9_command_244 (by decide) ?_
                                            refine g_icmp_ne (tgt := 253) hx hb dX9_command_246 (by decide) (by decide) (by decide) (fun c246 => ?_) (fun c246 => ?_)
                                            · skip
                                              refine g_iconst hx hb dX9_command_253 ?_
                                              refine lv_aload_n hx hb dX9_command_254 rfl (lv_at hl 1 rfl) ?_
                                              refine g_get (ci := 11) (v := .int (zI 1)) (C := RX9) (T := TX9) (N := 24) hx hb hts iU_X9 hown hK hM ⟨by omega, by omega⟩ ho276 rfl 22 (by decide) (hts _ u_1166) (fun _ h9 => h9) rfl dX9_command_255 ?_
                                              refine g_if_eq (tgt := 265) hx hb dX9_command_258 (by decide) (by decide) (fun c258 => ?_) (fun c258 => ?_)
                                              · exact absurd c258 (by decide)
                                              · skip
                                                refine g_iconst hx hb dX9_command_261 ?_
                                                refine lv_goto (tgt := 271) hx hb dX9_command_262 (by decide) ?_
                                                have hf277 := ha241.kept (o252 (h + 12) (by omega))
                                                refine g_iast hx hb hK hM ⟨by omega, by omega⟩ hf277 (by decide) (by decide) (by decide) dX9_command_271 (fun f278 H locs hM ha280 o279 => ?_)
                                                have hf281 : f278 (h) = .inr (11, [.int (zI (Z 0)), .ref (h + 1), .ref (h + 2), .ref (h + 3), .ref (h + 4), .ref (h + 5), .ref (h + 6), .ref (h + 7), .ref (h + 8), .int (zI (Z 9)), .int (zI (Z 10)), .int (zI (Z 11)), .int (zI (Z 12)), .int (zI (Z 13)), .int (zI (Z 14)), .int (zI (Z 15)), .int (zI (Z 16)), .ref (h + 9), .ref (h + 10), .ref (h + 11), .int (zI (↑L : Int)), .int (zI (↑(a + 1 + 3) : Int)), .int (zI 1), .ref (h + 12)]) := (o279 (h) (by omega)).trans ho276
                                                refine g_vret hx hb hr hlk hK hM dX9_command_272 ?_
                                                have hS : sCmd T L a = (false, a + 1 + 3, 0, 0, 0, 0) := by
                                                  unfold sCmd
                                                  rw [if_neg c13, if_neg c19, if_neg c25, if_pos c31]
                                                  unfold sMo
                                                  rw [if_pos (show plG T L (a + 1) from hpc196)]
                                                  rw [if_pos (show nx T L (a + 1 + 1) = 62 from htc220)]
                                                  rw [if_pos (show plG T L (a + 1 + 2) from hpc231)]
                                                  rw [if_neg (show ¬ (nx T L (a + 1 + 3) = 58) from (fun hh => htc250 ⟨rfl, hh⟩))]
                                                rw [hS]
                                                exact Or.inr ⟨rfl, hf281, ⟨_, ha280⟩, (fun q hq => ((o279 (q) (by omega)).trans ((o252 (q) (by omega)).trans ((o240 (q) (by omega)).trans ((o233 (q) (by omega)).trans ((o222 (q) (by omega)).trans ((o213 (q) (by omega)).trans ((o209 (q) (by omega)).trans ((o205 (q) (by omega)).trans ((o198 (q) (by omega)).trans ((o189 (q) (by omega)).trans ((o185 (q) (by omega)).trans (o182 (q) (by omega))))))))))))))⟩
                                            · exact absurd c246 (by decide)
                                        · exact absurd (by decide) c229
                                    · skip
                                      have ho282 : f229 h = .inr (11, [.int (zI (Z 0)), .ref (h + 1), .ref (h + 2), .ref (h + 3), .ref (h + 4), .ref (h + 5), .ref (h + 6), .ref (h + 7), .ref (h + 8), .int (zI (Z 9)), .int (zI (Z 10)), .int (zI (Z 11)), .int (zI (Z 12)), .int (zI (Z 13)), .int (zI (Z 14)), .int (zI (Z 15)), .int (zI (Z 16)), .ref (h + 9), .ref (h + 10), .ref (h + 11), .int (zI (↑L : Int)), .int (zI (↑(a + 1 + 2) : Int)), .int (zI 1), .ref (h + 12)]) := hm235
                                      obtain ⟨hpc234v, rfl⟩ : ∃ z : Int, r216 = zI z := ⟨r216.toInt, (zI_self _).symm⟩
                                      have hf283 := ha214.kept ((o236 (h + 12) (by omega)).trans (o222 (h + 12) (by omega)))
                                      refine g_iast hx hb hK hM ⟨by omega, by omega⟩ hf283 (by decide) (by decide) (by decide) dX9_command_219 (fun f284 H locs hM ha286 o285 => ?_)
                                      refine lv_iload_n hx hb dX9_command_220 rfl (lv_at hl 0 rfl) ?_
                                      refine g_bipush hx hb dX9_command_221 (by decide) ?_
                                      refine g_icmp_eq (tgt := 233) hx hb dX9_command_223 (by decide) (by decide) (by decide) (fun c223 => ?_) (fun c223 => ?_)
                                      · exact absurd c223 (by decide)
                                      · skip
                                        refine lv_iload_n hx hb dX9_command_226 rfl (lv_at hl 0 rfl) ?_
                                        refine g_bipush hx hb dX9_command_227 (by decide) ?_
                                        refine g_icmp_eq (tgt := 233) hx hb dX9_command_229 (by decide) (by decide) (by decide) (fun c229 => ?_) (fun c229 => ?_)
                                        · skip
                                          refine lv_aload_n hx hb dX9_command_233 rfl (lv_at hl 1 rfl) ?_
                                          refine g_bipush hx hb dX9_command_234 (by decide) ?_
                                          have hf287 : f284 (h) = .inr (11, [.int (zI (Z 0)), .ref (h + 1), .ref (h + 2), .ref (h + 3), .ref (h + 4), .ref (h + 5), .ref (h + 6), .ref (h + 7), .ref (h + 8), .int (zI (Z 9)), .int (zI (Z 10)), .int (zI (Z 11)), .int (zI (Z 12)), .int (zI (Z 13)), .int (zI (Z 14)), .int (zI (Z 15)), .int (zI (Z 16)), .ref (h + 9), .ref (h + 10), .ref (h + 11), .int (zI (↑L : Int)), .int (zI (↑(a + 1 + 2) : Int)), .int (zI 1), .ref (h + 12)]) := (o285 (h) (by omega)).trans ho282
                                          have hf288 := hf227.kept ((o285 (h + 11) (by omega)).trans (o236 (h + 11) (by omega)))
                                          have hC289 := c_X9_takes l g b0 n f284 h Z In T L (a + 1 + 2) 1 58 hf287 hrg hf288 hTT hL htx (by omega) (by decide) (by decide)
                                          refine g_callVv (ci := 11) (C := RX9) (T := TX9) (N := 24) (As := [.int (zI 58)]) (rest := []) ⟨hx, hb, hml, hown, hts⟩ hK hM hC289 (cuV (n := 1) hts u_1579 u_1576 u_10 (by decide) u_1578 us_72 ⟨Nat.le_of_ble_eq_true rfl, Nat.le_of_ble_eq_true rfl⟩) ⟨by omega, by omega⟩ hf287 rfl rfl hl.1 rfl (Nat.le_of_ble_eq_true rfl) dX9_command_236 ⟨Nat.zero_le _, Nat.zero_le _⟩ (fun f290 H locs hM hp291 => ?_)
                                          rcases hp291 with ⟨htc2920, htc292, hm293, o294⟩ | ⟨htc295, hm296, o297⟩
                                          · skip
                                            exact absurd htc2920 (by decide)
                                          · skip
                                            have ho298 : f290 h = .inr (11, [.int (zI (Z 0)), .ref (h + 1), .ref (h + 2), .ref (h + 3), .ref (h + 4), .ref (h + 5), .ref (h + 6), .ref (h + 7), .ref (h + 8), .int (zI (Z 9)), .int (zI (Z 10)), .int (zI (Z 11)), .int (zI (Z 12)), .int (zI (Z 13)), .int (zI (Z 14)), .int (zI (Z 15)), .int (zI (Z 16)), .ref (h + 9), .ref (h + 10), .ref (h + 11), .int (zI (↑L : Int)), .int (zI (↑(a + 1 + 2) : Int)), .int (zI 1), .ref (h + 12)]) := hm296
                                            refine lv_aload_n hx hb dX9_command_239 rfl (lv_at hl 1 rfl) ?_
                                            refine g_get (ci := 11) (v := .ref (h + 12)) (C := RX9) (T := TX9) (N := 24) hx hb hts iU_X9 hown hK hM ⟨by omega, by omega⟩ ho298 rfl 23 (by decide) (hts _ u_1167) (fun _ h9 => h9) rfl dX9_command_240 ?_
                                            refine lv_iload_n hx hb dX9_command_243 rfl (lv_at hl 0 rfl) ?_
                                            refine g_bipush hx hb dX9_command_244 (by decide) ?_
                                            refine g_icmp_ne (tgt := 253) hx hb dX9_command_246 (by decide) (by decide) (by decide) (fun c246 => ?_) (fun c246 => ?_)
                                            · skip
                                              refine g_iconst hx hb dX9_command_253 ?_
                                              refine lv_aload_n hx hb dX9_command_254 rfl (lv_at hl 1 rfl) ?_
                                              refine g_get (ci := 11) (v := .int (zI 1)) (C := RX9) (T := TX9) (N := 24) hx hb hts iU_X9 hown hK hM ⟨by omega, by omega⟩ ho298 rfl 22 (by decide) (hts _ u_1166) (fun _ h9 => h9) rfl dX9_command_255 ?_
                                              refine g_if_eq (tgt := 265) hx hb dX9_command_258 (by decide) (by decide) (fun c258 => ?_) (fun c258 => ?_)
                                              · exact absurd c258 (by decide)
                                              · skip
                                                refine g_iconst hx hb dX9_command_261 ?_
                                                refine lv_goto (tgt := 271) hx hb dX9_command_262 (by decide) ?_
                                                have hf299 := ha286.kept (o297 (h + 12) (by omega))
                                                refine g_iast hx hb hK hM ⟨by omega, by omega⟩ hf299 (by decide) (by decide) (by decide) dX9_command_271 (fun f300 H locs hM ha302 o301 => ?_)
                                                have hf303 : f300 (h) = .inr (11, [.int (zI (Z 0)), .ref (h + 1), .ref (h + 2), .ref (h + 3), .ref (h + 4), .ref (h + 5), .ref (h + 6), .ref (h + 7), .ref (h + 8), .int (zI (Z 9)), .int (zI (Z 10)), .int (zI (Z 11)), .int (zI (Z 12)), .int (zI (Z 13)), .int (zI (Z 14)), .int (zI (Z 15)), .int (zI (Z 16)), .ref (h + 9), .ref (h + 10), .ref (h + 11), .int (zI (↑L : Int)), .int (zI (↑(a + 1 + 2) : Int)), .int (zI 1), .ref (h + 12)]) := (o301 (h) (by omega)).trans ho298
                                                refine g_vret hx hb hr hlk hK hM dX9_command_272 ?_
                                                have hS : sCmd T L a = (false, a + 1 + 2, 0, 0, 0, 0) := by
                                                  unfold sCmd
                                                  rw [if_neg c13, if_neg c19, if_neg c25, if_pos c31]
                                                  unfold sMo
                                                  rw [if_pos (show plG T L (a + 1) from hpc196)]
                                                  rw [if_pos (show nx T L (a + 1 + 1) = 62 from htc220)]
                                                  rw [if_neg (show ¬ (plG T L (a + 1 + 2)) from hpc234)]
                                                rw [hS]
                                                exact Or.inr ⟨rfl, hf303, ⟨_, ha302⟩, (fun q hq => ((o301 (q) (by omega)).trans ((o297 (q) (by omega)).trans ((o285 (q) (by omega)).trans ((o236 (q) (by omega)).trans ((o222 (q) (by omega)).trans ((o213 (q) (by omega)).trans ((o209 (q) (by omega)).trans ((o205 (q) (by omega)).trans ((o198 (q) (by omega)).trans ((o189 (q) (by omega)).trans ((o185 (q) (by omega)).trans (o182 (q) (by omega))))))))))))))⟩
                                            · exact absurd c246 (by decide)
                                        · exact absurd (by decide) c229
                                  · exact absurd c208 (by decide)
                                · skip
                                  have ho304 : f218 h = .inr (11, [.int (zI (Z 0)), .ref (h + 1), .ref (h + 2), .ref (h + 3), .ref (h + 4), .ref (h + 5), .ref (h + 6), .ref (h + 7), .ref (h + 8), .int (zI (Z 9)), .int (zI (Z 10)), .int (zI (Z 11)), .int (zI (Z 12)), .int (zI (Z 13)), .int (zI (Z 14)), .int (zI (Z 15)), .int (zI (Z 16)), .ref (h + 9), .ref (h + 10), .ref (h + 11), .int (zI (↑L : Int)), .int (zI (↑(a + 1 + 1) : Int)), .int (zI 1), .ref (h + 12)]) := hm224
                                  refine lv_aload_n hx hb dX9_command_199 rfl (lv_at hl 1 rfl) ?_
                                  refine g_get (ci := 11) (v := .ref (h + 12)) (C := RX9) (T := TX9) (N := 24) hx hb hts iU_X9 hown hK hM ⟨by omega, by omega⟩ ho304 rfl 23 (by decide) (hts _ u_1167) (fun _ h9 => h9) rfl dX9_command_200 ?_
                                  refine g_iconst hx hb dX9_command_203 ?_
                                  refine lv_aload_n hx hb dX9_command_204 rfl (lv_at hl 1 rfl) ?_
                                  refine g_get (ci := 11) (v := .int (zI 1)) (C := RX9) (T := TX9) (N := 24) hx hb hts iU_X9 hown hK hM ⟨by omega, by omega⟩ ho304 rfl 22 (by decide) (hts _ u_1166) (fun _ h9 => h9) rfl dX9_command_205 ?_
                                  refine g_if_eq (tgt := 215) hx hb dX9_command_208 (by decide) (by decide) (fun c208 => ?_) (fun c208 => ?_)
                                  · exact absurd c208 (by decide)
                                  · skip
                                    refine g_iconst hx hb dX9_command_211 ?_
                                    refine lv_goto (tgt := 219) hx hb dX9_command_212 (by decide) ?_
                                    have hf305 := ha214.kept (o225 (h + 12) (by omega))
                                    refine g_iast hx hb hK hM ⟨by omega, by omega⟩ hf305 (by decide) (by decide) (by decide) dX9_command_219 (fun f306 H locs hM ha308 o307 => ?_)
                                    refine lv_iload_n hx hb dX9_command_220 rfl (lv_at hl 0 rfl) ?_
                                    refine g_bipush hx hb dX9_command_221 (by decide) ?_
                                    refine g_icmp_eq (tgt := 233) hx hb dX9_command_223 (by decide) (by decide) (by decide) (fun c223 => ?_) (fun c223 => ?_)
                                    · exact absurd c223 (by decide)
                                    · skip
                                      refine lv_iload_n hx hb dX9_command_226 rfl (lv_at hl 0 rfl) ?_
                                      refine g_bipush hx hb dX9_command_227 (by decide) ?_
                                      refine g_icmp_eq (tgt := 233) hx hb dX9_command_229 (by decide) (by decide) (by decide) (fun c229 => ?_) (fun c229 => ?_)
                                      · skip
                                        refine lv_aload_n hx hb dX9_command_233 rfl (lv_at hl 1 rfl) ?_
                                        refine g_bipush hx hb dX9_command_234 (by decide) ?_
                                        have hf309 : f306 (h) = .inr (11, [.int (zI (Z 0)), .ref (h + 1), .ref (h + 2), .ref (h + 3), .ref (h + 4), .ref (h + 5), .ref (h + 6), .ref (h + 7), .ref (h + 8), .int (zI (Z 9)), .int (zI (Z 10)), .int (zI (Z 11)), .int (zI (Z 12)), .int (zI (Z 13)), .int (zI (Z 14)), .int (zI (Z 15)), .int (zI (Z 16)), .ref (h + 9), .ref (h + 10), .ref (h + 11), .int (zI (↑L : Int)), .int (zI (↑(a + 1 + 1) : Int)), .int (zI 1), .ref (h + 12)]) := (o307 (h) (by omega)).trans ho304
                                        have hf310 := hf216.kept ((o307 (h + 11) (by omega)).trans (o225 (h + 11) (by omega)))
                                        have hC311 := c_X9_takes l g b0 n f306 h Z In T L (a + 1 + 1) 1 58 hf309 hrg hf310 hTT hL htx (by omega) (by decide) (by decide)
                                        refine g_callVv (ci := 11) (C := RX9) (T := TX9) (N := 24) (As := [.int (zI 58)]) (rest := []) ⟨hx, hb, hml, hown, hts⟩ hK hM hC311 (cuV (n := 1) hts u_1579 u_1576 u_10 (by decide) u_1578 us_72 ⟨Nat.le_of_ble_eq_true rfl, Nat.le_of_ble_eq_true rfl⟩) ⟨by omega, by omega⟩ hf309 rfl rfl hl.1 rfl (Nat.le_of_ble_eq_true rfl) dX9_command_236 ⟨Nat.zero_le _, Nat.zero_le _⟩ (fun f312 H locs hM hp313 => ?_)
                                        rcases hp313 with ⟨htc3140, htc314, hm315, o316⟩ | ⟨htc317, hm318, o319⟩
                                        · skip
                                          exact absurd htc3140 (by decide)
                                        · skip
                                          have ho320 : f312 h = .inr (11, [.int (zI (Z 0)), .ref (h + 1), .ref (h + 2), .ref (h + 3), .ref (h + 4), .ref (h + 5), .ref (h + 6), .ref (h + 7), .ref (h + 8), .int (zI (Z 9)), .int (zI (Z 10)), .int (zI (Z 11)), .int (zI (Z 12)), .int (zI (Z 13)), .int (zI (Z 14)), .int (zI (Z 15)), .int (zI (Z 16)), .ref (h + 9), .ref (h + 10), .ref (h + 11), .int (zI (↑L : Int)), .int (zI (↑(a + 1 + 1) : Int)), .int (zI 1), .ref (h + 12)]) := hm318
                                          refine lv_aload_n hx hb dX9_command_239 rfl (lv_at hl 1 rfl) ?_
                                          refine g_get (ci := 11) (v := .ref (h + 12)) (C := RX9) (T := TX9) (N := 24) hx hb hts iU_X9 hown hK hM ⟨by omega, by omega⟩ ho320 rfl 23 (by decide) (hts _ u_1167) (fun _ h9 => h9) rfl dX9_command_240 ?_
                                          refine lv_iload_n hx hb dX9_command_243 rfl (lv_at hl 0 rfl) ?_
                                          refine g_bipush hx hb dX9_command_244 (by decide) ?_
                                          refine g_icmp_ne (tgt := 253) hx hb dX9_command_246 (by decide) (by decide) (by decide) (fun c246 => ?_) (fun c246 => ?_)
                                          · skip
                                            refine g_iconst hx hb dX9_command_253 ?_
                                            refine lv_aload_n hx hb dX9_command_254 rfl (lv_at hl 1 rfl) ?_
                                            refine g_get (ci := 11) (v := .int (zI 1)) (C := RX9) (T := TX9) (N := 24) hx hb hts iU_X9 hown hK hM ⟨by omega, by omega⟩ ho320 rfl 22 (by decide) (hts _ u_1166) (fun _ h9 => h9) rfl dX9_command_255 ?_
                                            refine g_if_eq (tgt := 265) hx hb dX9_command_258 (by decide) (by decide) (fun c258 => ?_) (fun c258 => ?_)
                                            · exact absurd c258 (by decide)
                                            · skip
                                              refine g_iconst hx hb dX9_command_261 ?_
                                              refine lv_goto (tgt := 271) hx hb dX9_command_262 (by decide) ?_
                                              have hf321 := ha308.kept (o319 (h + 12) (by omega))
                                              refine g_iast hx hb hK hM ⟨by omega, by omega⟩ hf321 (by decide) (by decide) (by decide) dX9_command_271 (fun f322 H locs hM ha324 o323 => ?_)
                                              have hf325 : f322 (h) = .inr (11, [.int (zI (Z 0)), .ref (h + 1), .ref (h + 2), .ref (h + 3), .ref (h + 4), .ref (h + 5), .ref (h + 6), .ref (h + 7), .ref (h + 8), .int (zI (Z 9)), .int (zI (Z 10)), .int (zI (Z 11)), .int (zI (Z 12)), .int (zI (Z 13)), .int (zI (Z 14)), .int (zI (Z 15)), .int (zI (Z 16)), .ref (h + 9), .ref (h + 10), .ref (h + 11), .int (zI (↑L : Int)), .int (zI (↑(a + 1 + 1) : Int)), .int (zI 1), .ref (h + 12)]) := (o323 (h) (by omega)).trans ho320
                                              refine g_vret hx hb hr hlk hK hM dX9_command_272 ?_
                                              have hS : sCmd T L a = (false, a + 1 + 1, 0, 0, 0, 0) := by
                                                unfold sCmd
                                                rw [if_neg c13, if_neg c19, if_neg c25, if_pos c31]
                                                unfold sMo
                                                rw [if_pos (show plG T L (a + 1) from hpc196)]
                                                rw [if_neg (show ¬ (nx T L (a + 1 + 1) = 62) from (fun hh => htc223 ⟨rfl, hh⟩))]
                                              rw [hS]
                                              exact Or.inr ⟨rfl, hf325, ⟨_, ha324⟩, (fun q hq => ((o323 (q) (by omega)).trans ((o319 (q) (by omega)).trans ((o307 (q) (by omega)).trans ((o225 (q) (by omega)).trans ((o213 (q) (by omega)).trans ((o209 (q) (by omega)).trans ((o205 (q) (by omega)).trans ((o198 (q) (by omega)).trans ((o189 (q) (by omega)).trans ((o185 (q) (by omega)).trans (o182 (q) (by omega)))))))))))))⟩
                                          · exact absurd c246 (by decide)
                                      · exact absurd (by decide) c229
                            · skip
                              have ho326 : f194 h = .inr (11, [.int (zI (Z 0)), .ref (h + 1), .ref (h + 2), .ref (h + 3), .ref (h + 4), .ref (h + 5), .ref (h + 6), .ref (h + 7), .ref (h + 8), .int (zI (Z 9)), .int (zI (Z 10)), .int (zI (Z 11)), .int (zI (Z 12)), .int (zI (Z 13)), .int (zI (Z 14)), .int (zI (Z 15)), .int (zI (Z 16)), .ref (h + 9), .ref (h + 10), .ref (h + 11), .int (zI (↑L : Int)), .int (zI (↑(a + 1) : Int)), .int (zI 1), .ref (h + 12)]) := hm200
                              obtain ⟨hpc199v, rfl⟩ : ∃ z : Int, r160 = zI z := ⟨r160.toInt, (zI_self _).symm⟩
                              refine lv_goto (tgt := 172) hx hb dX9_command_163 (by decide) ?_
                              have hf327 := ha190.kept (o201 (h + 12) (by omega))
                              refine g_iast hx hb hK hM ⟨by omega, by omega⟩ hf327 (by decide) (by decide) (by decide) dX9_command_172 (fun f328 H locs hM ha330 o329 => ?_)
                              refine lv_aload_n hx hb dX9_command_173 rfl (lv_at hl 1 rfl) ?_
                              have hf331 : f328 (h) = .inr (11, [.int (zI (Z 0)), .ref (h + 1), .ref (h + 2), .ref (h + 3), .ref (h + 4), .ref (h + 5), .ref (h + 6), .ref (h + 7), .ref (h + 8), .int (zI (Z 9)), .int (zI (Z 10)), .int (zI (Z 11)), .int (zI (Z 12)), .int (zI (Z 13)), .int (zI (Z 14)), .int (zI (Z 15)), .int (zI (Z 16)), .ref (h + 9), .ref (h + 10), .ref (h + 11), .int (zI (↑L : Int)), .int (zI (↑(a + 1) : Int)), .int (zI 1), .ref (h + 12)]) := (o329 (h) (by omega)).trans ho326
                              refine g_get (ci := 11) (v := .ref (h + 12)) (C := RX9) (T := TX9) (N := 24) hx hb hts iU_X9 hown hK hM ⟨by omega, by omega⟩ hf331 rfl 23 (by decide) (hts _ u_1167) (fun _ h9 => h9) rfl dX9_command_174 ?_
                              refine g_iconst hx hb dX9_command_177 ?_
                              refine g_iconst hx hb dX9_command_178 ?_
                              refine g_iast hx hb hK hM ⟨by omega, by omega⟩ ha330 (by decide) (by decide) (by decide) dX9_command_179 (fun f332 H locs hM ha334 o333 => ?_)
                              refine lv_aload_n hx hb dX9_command_180 rfl (lv_at hl 1 rfl) ?_
                              have hf335 : f332 (h) = .inr (11, [.int (zI (Z 0)), .ref (h + 1), .ref (h + 2), .ref (h + 3), .ref (h + 4), .ref (h + 5), .ref (h + 6), .ref (h + 7), .ref (h + 8), .int (zI (Z 9)), .int (zI (Z 10)), .int (zI (Z 11)), .int (zI (Z 12)), .int (zI (Z 13)), .int (zI (Z 14)), .int (zI (Z 15)), .int (zI (Z 16)), .ref (h + 9), .ref (h + 10), .ref (h + 11), .int (zI (↑L : Int)), .int (zI (↑(a + 1) : Int)), .int (zI 1), .ref (h + 12)]) := (o333 (h) (by omega)).trans hf331
                              refine g_get (ci := 11) (v := .ref (h + 12)) (C := RX9) (T := TX9) (N := 24) hx hb hts iU_X9 hown hK hM ⟨by omega, by omega⟩ hf335 rfl 23 (by decide) (hts _ u_1167) (fun _ h9 => h9) rfl dX9_command_181 ?_
                              refine g_iconst hx hb dX9_command_184 ?_
                              refine g_iconst hx hb dX9_command_185 ?_
                              refine g_iast hx hb hK hM ⟨by omega, by omega⟩ ha334 (by decide) (by decide) (by decide) dX9_command_186 (fun f336 H locs hM ha338 o337 => ?_)
                              refine lv_iload_n hx hb dX9_command_187 rfl (lv_at hl 0 rfl) ?_
                              refine g_bipush hx hb dX9_command_188 (by decide) ?_
                              refine g_icmp_ne (tgt := 220) hx hb dX9_command_190 (by decide) (by decide) (by decide) (fun c190 => ?_) (fun c190 => ?_)
                              · exact absurd c190 (by decide)
                              · skip
                                refine lv_aload_n hx hb dX9_command_193 rfl (lv_at hl 1 rfl) ?_
                                refine g_bipush hx hb dX9_command_194 (by decide) ?_
                                have hf339 : f336 (h) = .inr (11, [.int (zI (Z 0)), .ref (h + 1), .ref (h + 2), .ref (h + 3), .ref (h + 4), .ref (h + 5), .ref (h + 6), .ref (h + 7), .ref (h + 8), .int (zI (Z 9)), .int (zI (Z 10)), .int (zI (Z 11)), .int (zI (Z 12)), .int (zI (Z 13)), .int (zI (Z 14)), .int (zI (Z 15)), .int (zI (Z 16)), .ref (h + 9), .ref (h + 10), .ref (h + 11), .int (zI (↑L : Int)), .int (zI (↑(a + 1) : Int)), .int (zI 1), .ref (h + 12)]) := (o337 (h) (by omega)).trans hf335
                                have hf340 := hf192.kept ((o337 (h + 11) (by omega)).trans ((o333 (h + 11) (by omega)).trans ((o329 (h + 11) (by omega)).trans (o201 (h + 11) (by omega)))))
                                have hC341 := c_X9_takes l g b0 n f336 h Z In T L (a + 1) 1 62 hf339 hrg hf340 hTT hL htx (by omega) (by decide) (by decide)
                                refine g_callVv (ci := 11) (C := RX9) (T := TX9) (N := 24) (As := [.int (zI 62)]) (rest := []) ⟨hx, hb, hml, hown, hts⟩ hK hM hC341 (cuV (n := 1) hts u_1579 u_1576 u_10 (by decide) u_1578 us_72 ⟨Nat.le_of_ble_eq_true rfl, Nat.le_of_ble_eq_true rfl⟩) ⟨by omega, by omega⟩ hf339 rfl rfl hl.1 rfl (Nat.le_of_ble_eq_true rfl) dX9_command_196 ⟨Nat.zero_le _, Nat.zero_le _⟩ (fun f342 H locs hM hp343 => ?_)
                                rcases hp343 with ⟨htc3440, htc344, hm345, o346⟩ | ⟨htc347, hm348, o349⟩
                                · skip
                                  exact absurd htc3440 (by decide)
                                · skip
                                  have ho350 : f342 h = .inr (11, [.int (zI (Z 0)), .ref (h + 1), .ref (h + 2), .ref (h + 3), .ref (h + 4), .ref (h + 5), .ref (h + 6), .ref (h + 7), .ref (h + 8), .int (zI (Z 9)), .int (zI (Z 10)), .int (zI (Z 11)), .int (zI (Z 12)), .int (zI (Z 13)), .int (zI (Z 14)), .int (zI (Z 15)), .int (zI (Z 16)), .ref (h + 9), .ref (h + 10), .ref (h + 11), .int (zI (↑L : Int)), .int (zI (↑(a + 1) : Int)), .int (zI 1), .ref (h + 12)]) := hm348
                                  refine lv_aload_n hx hb dX9_command_199 rfl (lv_at hl 1 rfl) ?_
                                  refine g_get (ci := 11) (v := .ref (h + 12)) (C := RX9) (T := TX9) (N := 24) hx hb hts iU_X9 hown hK hM ⟨by omega, by omega⟩ ho350 rfl 23 (by decide) (hts _ u_1167) (fun _ h9 => h9) rfl dX9_command_200 ?_
                                  refine g_iconst hx hb dX9_command_203 ?_
                                  refine lv_aload_n hx hb dX9_command_204 rfl (lv_at hl 1 rfl) ?_
                                  refine g_get (ci := 11) (v := .int (zI 1)) (C := RX9) (T := TX9) (N := 24) hx hb hts iU_X9 hown hK hM ⟨by omega, by omega⟩ ho350 rfl 22 (by decide) (hts _ u_1166) (fun _ h9 => h9) rfl dX9_command_205 ?_
                                  refine g_if_eq (tgt := 215) hx hb dX9_command_208 (by decide) (by decide) (fun c208 => ?_) (fun c208 => ?_)
                                  · exact absurd c208 (by decide)
                                  · skip
                                    refine g_iconst hx hb dX9_command_211 ?_
                                    refine lv_goto (tgt := 219) hx hb dX9_command_212 (by decide) ?_
                                    have hf351 := ha338.kept (o349 (h + 12) (by omega))
                                    refine g_iast hx hb hK hM ⟨by omega, by omega⟩ hf351 (by decide) (by decide) (by decide) dX9_command_219 (fun f352 H locs hM ha354 o353 => ?_)
                                    refine lv_iload_n hx hb dX9_command_220 rfl (lv_at hl 0 rfl) ?_
                                    refine g_bipush hx hb dX9_command_221 (by decide) ?_
                                    refine g_icmp_eq (tgt := 233) hx hb dX9_command_223 (by decide) (by decide) (by decide) (fun c223 => ?_) (fun c223 => ?_)
                                    · exact absurd c223 (by decide)
                                    · skip
                                      refine lv_iload_n hx hb dX9_command_226 rfl (lv_at hl 0 rfl) ?_
                                      refine g_bipush hx hb dX9_command_227 (by decide) ?_
                                      refine g_icmp_eq (tgt := 233) hx hb dX9_command_229 (by decide) (by decide) (by decide) (fun c229 => ?_) (fun c229 => ?_)
                                      · skip
                                        refine lv_aload_n hx hb dX9_command_233 rfl (lv_at hl 1 rfl) ?_
                                        refine g_bipush hx hb dX9_command_234 (by decide) ?_
                                        have hf355 : f352 (h) = .inr (11, [.int (zI (Z 0)), .ref (h + 1), .ref (h + 2), .ref (h + 3), .ref (h + 4), .ref (h + 5), .ref (h + 6), .ref (h + 7), .ref (h + 8), .int (zI (Z 9)), .int (zI (Z 10)), .int (zI (Z 11)), .int (zI (Z 12)), .int (zI (Z 13)), .int (zI (Z 14)), .int (zI (Z 15)), .int (zI (Z 16)), .ref (h + 9), .ref (h + 10), .ref (h + 11), .int (zI (↑L : Int)), .int (zI (↑(a + 1) : Int)), .int (zI 1), .ref (h + 12)]) := (o353 (h) (by omega)).trans ho350
                                        have hf356 := hf340.kept ((o353 (h + 11) (by omega)).trans (o349 (h + 11) (by omega)))
                                        have hC357 := c_X9_takes l g b0 n f352 h Z In T L (a + 1) 1 58 hf355 hrg hf356 hTT hL htx (by omega) (by decide) (by decide)
                                        refine g_callVv (ci := 11) (C := RX9) (T := TX9) (N := 24) (As := [.int (zI 58)]) (rest := []) ⟨hx, hb, hml, hown, hts⟩ hK hM hC357 (cuV (n := 1) hts u_1579 u_1576 u_10 (by decide) u_1578 us_72 ⟨Nat.le_of_ble_eq_true rfl, Nat.le_of_ble_eq_true rfl⟩) ⟨by omega, by omega⟩ hf355 rfl rfl hl.1 rfl (Nat.le_of_ble_eq_true rfl) dX9_command_236 ⟨Nat.zero_le _, Nat.zero_le _⟩ (fun f358 H locs hM hp359 => ?_)
                                        rcases hp359 with ⟨htc3600, htc360, hm361, o362⟩ | ⟨htc363, hm364, o365⟩
                                        · skip
                                          exact absurd htc3600 (by decide)
                                        · skip
                                          have ho366 : f358 h = .inr (11, [.int (zI (Z 0)), .ref (h + 1), .ref (h + 2), .ref (h + 3), .ref (h + 4), .ref (h + 5), .ref (h + 6), .ref (h + 7), .ref (h + 8), .int (zI (Z 9)), .int (zI (Z 10)), .int (zI (Z 11)), .int (zI (Z 12)), .int (zI (Z 13)), .int (zI (Z 14)), .int (zI (Z 15)), .int (zI (Z 16)), .ref (h + 9), .ref (h + 10), .ref (h + 11), .int (zI (↑L : Int)), .int (zI (↑(a + 1) : Int)), .int (zI 1), .ref (h + 12)]) := hm364
                                          refine lv_aload_n hx hb dX9_command_239 rfl (lv_at hl 1 rfl) ?_
                                          refine g_get (ci := 11) (v := .ref (h + 12)) (C := RX9) (T := TX9) (N := 24) hx hb hts iU_X9 hown hK hM ⟨by omega, by omega⟩ ho366 rfl 23 (by decide) (hts _ u_1167) (fun _ h9 => h9) rfl dX9_command_240 ?_
                                          refine lv_iload_n hx hb dX9_command_243 rfl (lv_at hl 0 rfl) ?_
                                          refine g_bipush hx hb dX9_command_244 (by decide) ?_
                                          refine g_icmp_ne (tgt := 253) hx hb dX9_command_246 (by decide) (by decide) (by decide) (fun c246 => ?_) (fun c246 => ?_)
                                          · skip
                                            refine g_iconst hx hb dX9_command_253 ?_
                                            refine lv_aload_n hx hb dX9_command_254 rfl (lv_at hl 1 rfl) ?_
                                            refine g_get (ci := 11) (v := .int (zI 1)) (C := RX9) (T := TX9) (N := 24) hx hb hts iU_X9 hown hK hM ⟨by omega, by omega⟩ ho366 rfl 22 (by decide) (hts _ u_1166) (fun _ h9 => h9) rfl dX9_command_255 ?_
                                            refine g_if_eq (tgt := 265) hx hb dX9_command_258 (by decide) (by decide) (fun c258 => ?_) (fun c258 => ?_)
                                            · exact absurd c258 (by decide)
                                            · skip
                                              refine g_iconst hx hb dX9_command_261 ?_
                                              refine lv_goto (tgt := 271) hx hb dX9_command_262 (by decide) ?_
                                              have hf367 := ha354.kept (o365 (h + 12) (by omega))
                                              refine g_iast hx hb hK hM ⟨by omega, by omega⟩ hf367 (by decide) (by decide) (by decide) dX9_command_271 (fun f368 H locs hM ha370 o369 => ?_)
                                              have hf371 : f368 (h) = .inr (11, [.int (zI (Z 0)), .ref (h + 1), .ref (h + 2), .ref (h + 3), .ref (h + 4), .ref (h + 5), .ref (h + 6), .ref (h + 7), .ref (h + 8), .int (zI (Z 9)), .int (zI (Z 10)), .int (zI (Z 11)), .int (zI (Z 12)), .int (zI (Z 13)), .int (zI (Z 14)), .int (zI (Z 15)), .int (zI (Z 16)), .ref (h + 9), .ref (h + 10), .ref (h + 11), .int (zI (↑L : Int)), .int (zI (↑(a + 1) : Int)), .int (zI 1), .ref (h + 12)]) := (o369 (h) (by omega)).trans ho366
                                              refine g_vret hx hb hr hlk hK hM dX9_command_272 ?_
                                              have hS : sCmd T L a = (false, a + 1, 0, 0, 0, 0) := by
                                                unfold sCmd
                                                rw [if_neg c13, if_neg c19, if_neg c25, if_pos c31]
                                                unfold sMo
                                                rw [if_neg (show ¬ (plG T L (a + 1)) from hpc199)]
                                              rw [hS]
                                              exact Or.inr ⟨rfl, hf371, ⟨_, ha370⟩, (fun q hq => ((o369 (q) (by omega)).trans ((o365 (q) (by omega)).trans ((o353 (q) (by omega)).trans ((o349 (q) (by omega)).trans ((o337 (q) (by omega)).trans ((o333 (q) (by omega)).trans ((o329 (q) (by omega)).trans ((o201 (q) (by omega)).trans ((o189 (q) (by omega)).trans ((o185 (q) (by omega)).trans (o182 (q) (by omega)))))))))))))⟩
                                          · exact absurd c246 (by decide)
                                      · exact absurd (by decide) c229
                          · exact absurd c148 (by decide)
                    · exact absurd c126 (by decide)
                · exact absurd c96 (by decide)
              · exact absurd c85 (by decide)
            · exact absurd c75 (by decide)
          · exact absurd c53 (by decide)
        · skip
          refine lv_iload_n hx hb dX9_command_34 rfl (lv_at hl 0 rfl) ?_
          refine g_bipush hx hb dX9_command_35 (by decide) ?_
          refine g_icmp_eq (tgt := 44) hx hb dX9_command_37 (by decide) ⟨by omega, by omega⟩ (by decide) (fun c37 => ?_) (fun c37 => ?_)
          · skip
            rw [c37] at hl
            have hlt0 := nx_lt (T := T) (L := L) (a := a) (by omega)
            refine g_iconst hx hb dX9_command_44 ?_
            refine g_iorL (z1 := 0) (z2 := 0) (z3 := 0) hx hb dX9_command_45 (by decide) ?_
            refine g_put (ci := 11) (v := .int (zI 0)) (ty := .boolean) (C := RX9) (T := TX9) (N := 24) hx hb hts iU_X9 tyX9 tyX9_ok nmX9 hown hK hM ⟨by omega, by omega⟩ hO rfl 22 (by decide) (hts _ u_1166) (fun _ h9 => h9) rfl (by decide +kernel) (by decide) (by decide) (Nat.le_of_ble_eq_true rfl) dX9_command_46 (fun f372 H locs hM hf374 o373 => ?_)
            have hf374 : f372 (h) = .inr (11, [.int (zI (Z 0)), .ref (h + 1), .ref (h + 2), .ref (h + 3), .ref (h + 4), .ref (h + 5), .ref (h + 6), .ref (h + 7), .ref (h + 8), .int (zI (Z 9)), .int (zI (Z 10)), .int (zI (Z 11)), .int (zI (Z 12)), .int (zI (Z 13)), .int (zI (Z 14)), .int (zI (Z 15)), .int (zI (Z 16)), .ref (h + 9), .ref (h + 10), .ref (h + 11), .int (zI (↑L : Int)), .int (zI (↑a : Int)), .int (zI 0), .ref (h + 12)]) := hf374
            refine lv_aload_n hx hb dX9_command_49 rfl (lv_at hl 1 rfl) ?_
            refine g_get (ci := 11) (v := .int (zI 0)) (C := RX9) (T := TX9) (N := 24) hx hb hts iU_X9 hown hK hM ⟨by omega, by omega⟩ hf374 rfl 22 (by decide) (hts _ u_1166) (fun _ h9 => h9) rfl dX9_command_50 ?_
            refine g_if_eq (tgt := 57) hx hb dX9_command_53 (by decide) (by decide) (fun c53 => ?_) (fun c53 => ?_)
            · skip
              refine lv_aload_n hx hb dX9_command_57 rfl (lv_at hl 1 rfl) ?_
              refine lv_dup hx hb dX9_command_58 rfl ?_
              refine g_get (ci := 11) (v := .int (zI (↑a : Int))) (C := RX9) (T := TX9) (N := 24) hx hb hts iU_X9 hown hK hM ⟨by omega, by omega⟩ hf374 rfl 21 (by decide) (hts _ u_1165) (fun _ h9 => h9) rfl dX9_command_59 ?_
              refine g_iconst hx hb dX9_command_62 ?_
              refine g_iadd hx hb dX9_command_63 ?_
              refine g_put (ci := 11) (v := .int (zI ((↑a : Int) + 1))) (ty := .int) (C := RX9) (T := TX9) (N := 24) hx hb hts iU_X9 tyX9 tyX9_ok nmX9 hown hK hM ⟨by omega, by omega⟩ hf374 rfl 21 (by decide) (hts _ u_1165) (fun _ h9 => h9) rfl (by decide +kernel) rfl rfl (Nat.le_of_ble_eq_true rfl) dX9_command_64 (fun f375 H locs hM hf377 o376 => ?_)
              have hf377 : f375 (h) = .inr (11, [.int (zI (Z 0)), .ref (h + 1), .ref (h + 2), .ref (h + 3), .ref (h + 4), .ref (h + 5), .ref (h + 6), .ref (h + 7), .ref (h + 8), .int (zI (Z 9)), .int (zI (Z 10)), .int (zI (Z 11)), .int (zI (Z 12)), .int (zI (Z 13)), .int (zI (Z 14)), .int (zI (Z 15)), .int (zI (Z 16)), .ref (h + 9), .ref (h + 10), .ref (h + 11), .int (zI (↑L : Int)), .int (zI ((↑a : Int) + 1)), .int (zI 0), .ref (h + 12)]) := hf377
              refine lv_aload_n hx hb dX9_command_67 rfl (lv_at hl 1 rfl) ?_
              refine g_get (ci := 11) (v := .ref (h + 12)) (C := RX9) (T := TX9) (N := 24) hx hb hts iU_X9 hown hK hM ⟨by omega, by omega⟩ hf377 rfl 23 (by decide) (hts _ u_1167) (fun _ h9 => h9) rfl dX9_command_68 ?_
              refine g_iconst hx hb dX9_command_71 ?_
              refine lv_iload_n hx hb dX9_command_72 rfl (lv_at hl 0 rfl) ?_
              refine g_bipush hx hb dX9_command_73 (by decide) ?_
              refine g_icmp_ne (tgt := 82) hx hb dX9_command_75 (by decide) (by decide) (by decide) (fun c75 => ?_) (fun c75 => ?_)
              · skip
                refine lv_iload_n hx hb dX9_command_82 rfl (lv_at hl 0 rfl) ?_
                refine g_bipush hx hb dX9_command_83 (by decide) ?_
                refine g_icmp_ne (tgt := 93) hx hb dX9_command_85 (by decide) (by decide) (by decide) (fun c85 => ?_) (fun c85 => ?_)
                · skip
                  refine lv_iload_n hx hb dX9_command_93 rfl (lv_at hl 0 rfl) ?_
                  refine g_bipush hx hb dX9_command_94 (by decide) ?_
                  refine g_icmp_ne (tgt := 104) hx hb dX9_command_96 (by decide) (by decide) (by decide) (fun c96 => ?_) (fun c96 => ?_)
                  · skip
                    refine lv_iload_n hx hb dX9_command_104 rfl (lv_at hl 0 rfl) ?_
                    refine g_bipush hx hb dX9_command_105 (by decide) ?_
                    refine g_icmp_ne (tgt := 115) hx hb dX9_command_107 (by decide) (by decide) (by decide) (fun c107 => ?_) (fun c107 => ?_)
                    · skip
                      refine g_bipush hx hb dX9_command_115 (by decide) ?_
                      have hf378 := hC.kept ((o376 (h + 12) (by omega)).trans (o373 (h + 12) (by omega)))
                      refine g_iast hx hb hK hM ⟨by omega, by omega⟩ hf378 (by decide) (by decide) (by decide) dX9_command_117 (fun f379 H locs hM ha381 o380 => ?_)
                      refine lv_aload_n hx hb dX9_command_118 rfl (lv_at hl 1 rfl) ?_
                      have hf382 : f379 (h) = .inr (11, [.int (zI (Z 0)), .ref (h + 1), .ref (h + 2), .ref (h + 3), .ref (h + 4), .ref (h + 5), .ref (h + 6), .ref (h + 7), .ref (h + 8), .int (zI (Z 9)), .int (zI (Z 10)), .int (zI (Z 11)), .int (zI (Z 12)), .int (zI (Z 13)), .int (zI (Z 14)), .int (zI (Z 15)), .int (zI (Z 16)), .ref (h + 9), .ref (h + 10), .ref (h + 11), .int (zI (↑L : Int)), .int (zI ((↑a : Int) + 1)), .int (zI 0), .ref (h + 12)]) := (o380 (h) (by omega)).trans hf377
                      refine g_get (ci := 11) (v := .ref (h + 12)) (C := RX9) (T := TX9) (N := 24) hx hb hts iU_X9 hown hK hM ⟨by omega, by omega⟩ hf382 rfl 23 (by decide) (hts _ u_1167) (fun _ h9 => h9) rfl dX9_command_119 ?_
                      refine g_iconst hx hb dX9_command_122 ?_
                      refine lv_iload_n hx hb dX9_command_123 rfl (lv_at hl 0 rfl) ?_
                      refine g_bipush hx hb dX9_command_124 (by decide) ?_
                      refine g_icmp_ne (tgt := 133) hx hb dX9_command_126 (by decide) (by decide) (by decide) (fun c126 => ?_) (fun c126 => ?_)
                      · skip
                        refine lv_iload_n hx hb dX9_command_133 rfl (lv_at hl 0 rfl) ?_
                        refine g_bipush hx hb dX9_command_134 (by decide) ?_
                        refine g_icmp_eq (tgt := 145) hx hb dX9_command_136 (by decide) (by decide) (by decide) (fun c136 => ?_) (fun c136 => ?_)
                        · exact absurd c136 (by decide)
                        · skip
                          refine lv_iload_n hx hb dX9_command_139 rfl (lv_at hl 0 rfl) ?_
                          refine g_bipush hx hb dX9_command_140 (by decide) ?_
                          refine g_icmp_ne (tgt := 166) hx hb dX9_command_142 (by decide) (by decide) (by decide) (fun c142 => ?_) (fun c142 => ?_)
                          · skip
                            refine lv_aload_n hx hb dX9_command_166 rfl (lv_at hl 1 rfl) ?_
                            refine g_bipush hx hb dX9_command_167 (by decide) ?_
                            have hf383 := hIn.kept ((o380 (h + 11) (by omega)).trans ((o376 (h + 11) (by omega)).trans (o373 (h + 11) (by omega))))
                            have hC384 := c_X9_number l g b0 n f379 h Z In T L (a + 1) 7 hf382 hrg hf383 hTT hL htx (by omega) (by decide) (by decide)
                            refine g_callVi (ci := 11) (C := RX9) (T := TX9) (N := 24) (As := [.int (zI 7)]) (rest := [.int (zI 1), .ref (h + 12)]) ⟨hx, hb, hml, hown, hts⟩ hK hM hC384 (cuV (n := 1) hts u_1569 u_1566 u_10 (by decide) u_1568 us_70 ⟨Nat.le_of_ble_eq_true rfl, Nat.le_of_ble_eq_true rfl⟩) ⟨by omega, by omega⟩ hf382 rfl rfl hl.1 rfl (Nat.le_of_ble_eq_true rfl) dX9_command_169 ⟨Nat.zero_le _, Nat.zero_le _⟩ (fun r169 f385 H locs hM hp386 => ?_)
                            rcases hp386 with ⟨hnc387, hnc387r, hm388, o389⟩ | ⟨hnc390, hm391, o392⟩
                            · skip
                              subst hnc387r
                              have hnL392 := sNum_L (T := T) (L := L) (m := 7) (a := a + 1) (v := 0) (by omega)
                              have ho393 : f385 h = .inr (11, [.int (zI (Z 0)), .ref (h + 1), .ref (h + 2), .ref (h + 3), .ref (h + 4), .ref (h + 5), .ref (h + 6), .ref (h + 7), .ref (h + 8), .int (zI (Z 9)), .int (zI (Z 10)), .int (zI (Z 11)), .int (zI (Z 12)), .int (zI (Z 13)), .int (zI (Z 14)), .int (zI (Z 15)), .int (zI (Z 16)), .ref (h + 9), .ref (h + 10), .ref (h + 11), .int (zI (↑L : Int)), .int (zI (↑(sNum T L 7 (a + 1) 0).1 : Int)), .int (zI 0), .ref (h + 12)]) := hm388
                              have hf394 := ha381.kept (o389 (h + 12) (by omega))
                              refine g_iast hx hb hK hM ⟨by omega, by omega⟩ hf394 (by decide) (by decide) (by decide) dX9_command_172 (fun f395 H locs hM ha397 o396 => ?_)
                              refine lv_aload_n hx hb dX9_command_173 rfl (lv_at hl 1 rfl) ?_
                              have hf398 : f395 (h) = .inr (11, [.int (zI (Z 0)), .ref (h + 1), .ref (h + 2), .ref (h + 3), .ref (h + 4), .ref (h + 5), .ref (h + 6), .ref (h + 7), .ref (h + 8), .int (zI (Z 9)), .int (zI (Z 10)), .int (zI (Z 11)), .int (zI (Z 12)), .int (zI (Z 13)), .int (zI (Z 14)), .int (zI (Z 15)), .int (zI (Z 16)), .ref (h + 9), .ref (h + 10), .ref (h + 11), .int (zI (↑L : Int)), .int (zI (↑(sNum T L 7 (a + 1) 0).1 : Int)), .int (zI 0), .ref (h + 12)]) := (o396 (h) (by omega)).trans ho393
                              refine g_get (ci := 11) (v := .ref (h + 12)) (C := RX9) (T := TX9) (N := 24) hx hb hts iU_X9 hown hK hM ⟨by omega, by omega⟩ hf398 rfl 23 (by decide) (hts _ u_1167) (fun _ h9 => h9) rfl dX9_command_174 ?_
                              refine g_iconst hx hb dX9_command_177 ?_
                              refine g_iconst hx hb dX9_command_178 ?_
                              refine g_iast hx hb hK hM ⟨by omega, by omega⟩ ha397 (by decide) (by decide) (by decide) dX9_command_179 (fun f399 H locs hM ha401 o400 => ?_)
                              refine lv_aload_n hx hb dX9_command_180 rfl (lv_at hl 1 rfl) ?_
                              have hf402 : f399 (h) = .inr (11, [.int (zI (Z 0)), .ref (h + 1), .ref (h + 2), .ref (h + 3), .ref (h + 4), .ref (h + 5), .ref (h + 6), .ref (h + 7), .ref (h + 8), .int (zI (Z 9)), .int (zI (Z 10)), .int (zI (Z 11)), .int (zI (Z 12)), .int (zI (Z 13)), .int (zI (Z 14)), .int (zI (Z 15)), .int (zI (Z 16)), .ref (h + 9), .ref (h + 10), .ref (h + 11), .int (zI (↑L : Int)), .int (zI (↑(sNum T L 7 (a + 1) 0).1 : Int)), .int (zI 0), .ref (h + 12)]) := (o400 (h) (by omega)).trans hf398
                              refine g_get (ci := 11) (v := .ref (h + 12)) (C := RX9) (T := TX9) (N := 24) hx hb hts iU_X9 hown hK hM ⟨by omega, by omega⟩ hf402 rfl 23 (by decide) (hts _ u_1167) (fun _ h9 => h9) rfl dX9_command_181 ?_
                              refine g_iconst hx hb dX9_command_184 ?_
                              refine g_iconst hx hb dX9_command_185 ?_
                              refine g_iast hx hb hK hM ⟨by omega, by omega⟩ ha401 (by decide) (by decide) (by decide) dX9_command_186 (fun f403 H locs hM ha405 o404 => ?_)
                              refine lv_iload_n hx hb dX9_command_187 rfl (lv_at hl 0 rfl) ?_
                              refine g_bipush hx hb dX9_command_188 (by decide) ?_
                              refine g_icmp_ne (tgt := 220) hx hb dX9_command_190 (by decide) (by decide) (by decide) (fun c190 => ?_) (fun c190 => ?_)
                              · skip
                                refine lv_iload_n hx hb dX9_command_220 rfl (lv_at hl 0 rfl) ?_
                                refine g_bipush hx hb dX9_command_221 (by decide) ?_
                                refine g_icmp_eq (tgt := 233) hx hb dX9_command_223 (by decide) (by decide) (by decide) (fun c223 => ?_) (fun c223 => ?_)
                                · exact absurd c223 (by decide)
                                · skip
                                  refine lv_iload_n hx hb dX9_command_226 rfl (lv_at hl 0 rfl) ?_
                                  refine g_bipush hx hb dX9_command_227 (by decide) ?_
                                  refine g_icmp_eq (tgt := 233) hx hb dX9_command_229 (by decide) (by decide) (by decide) (fun c229 => ?_) (fun c229 => ?_)
                                  · exact absurd c229 (by decide)
                                  · skip
                                    have hf406 : f403 (h) = .inr (11, [.int (zI (Z 0)), .ref (h + 1), .ref (h + 2), .ref (h + 3), .ref (h + 4), .ref (h + 5), .ref (h + 6), .ref (h + 7), .ref (h + 8), .int (zI (Z 9)), .int (zI (Z 10)), .int (zI (Z 11)), .int (zI (Z 12)), .int (zI (Z 13)), .int (zI (Z 14)), .int (zI (Z 15)), .int (zI (Z 16)), .ref (h + 9), .ref (h + 10), .ref (h + 11), .int (zI (↑L : Int)), .int (zI (↑(sNum T L 7 (a + 1) 0).1 : Int)), .int (zI 0), .ref (h + 12)]) := (o404 (h) (by omega)).trans hf402
                                    refine g_vret hx hb hr hlk hK hM dX9_command_232 ?_
                                    have hS : sCmd T L a = (decide (a + 1 < (sNum T L 7 (a + 1) 0).1), (sNum T L 7 (a + 1) 0).1, 12, (sNum T L 7 (a + 1) 0).2, 0, 0) := by
                                      unfold sCmd
                                      rw [if_neg c13, if_neg c19, if_neg c25, if_neg c31, if_pos c37]
                                      unfold sNb
                                      rfl
                                    rw [hS]
                                    exact Or.inl ⟨decide_eq_true hnc387, hf406, ⟨_, ha405, rfl, rfl, rfl, rfl⟩, (fun q hq => ((o404 (q) (by omega)).trans ((o400 (q) (by omega)).trans ((o396 (q) (by omega)).trans ((o389 (q) (by omega)).trans ((o380 (q) (by omega)).trans ((o376 (q) (by omega)).trans (o373 (q) (by omega)))))))))⟩
                              · exact absurd c190 (by decide)
                            · skip
                              have ho407 : f385 h = .inr (11, [.int (zI (Z 0)), .ref (h + 1), .ref (h + 2), .ref (h + 3), .ref (h + 4), .ref (h + 5), .ref (h + 6), .ref (h + 7), .ref (h + 8), .int (zI (Z 9)), .int (zI (Z 10)), .int (zI (Z 11)), .int (zI (Z 12)), .int (zI (Z 13)), .int (zI (Z 14)), .int (zI (Z 15)), .int (zI (Z 16)), .ref (h + 9), .ref (h + 10), .ref (h + 11), .int (zI (↑L : Int)), .int (zI (↑(a + 1) : Int)), .int (zI 1), .ref (h + 12)]) := hm391
                              obtain ⟨hnc390v, rfl⟩ : ∃ z : Int, r169 = zI z := ⟨r169.toInt, (zI_self _).symm⟩
                              have hf408 := ha381.kept (o392 (h + 12) (by omega))
                              refine g_iast hx hb hK hM ⟨by omega, by omega⟩ hf408 (by decide) (by decide) (by decide) dX9_command_172 (fun f409 H locs hM ha411 o410 => ?_)
                              refine lv_aload_n hx hb dX9_command_173 rfl (lv_at hl 1 rfl) ?_
                              have hf412 : f409 (h) = .inr (11, [.int (zI (Z 0)), .ref (h + 1), .ref (h + 2), .ref (h + 3), .ref (h + 4), .ref (h + 5), .ref (h + 6), .ref (h + 7), .ref (h + 8), .int (zI (Z 9)), .int (zI (Z 10)), .int (zI (Z 11)), .int (zI (Z 12)), .int (zI (Z 13)), .int (zI (Z 14)), .int (zI (Z 15)), .int (zI (Z 16)), .ref (h + 9), .ref (h + 10), .ref (h + 11), .int (zI (↑L : Int)), .int (zI (↑(a + 1) : Int)), .int (zI 1), .ref (h + 12)]) := (o410 (h) (by omega)).trans ho407
                              refine g_get (ci := 11) (v := .ref (h + 12)) (C := RX9) (T := TX9) (N := 24) hx hb hts iU_X9 hown hK hM ⟨by omega, by omega⟩ hf412 rfl 23 (by decide) (hts _ u_1167) (fun _ h9 => h9) rfl dX9_command_174 ?_
                              refine g_iconst hx hb dX9_command_177 ?_
                              refine g_iconst hx hb dX9_command_178 ?_
                              refine g_iast hx hb hK hM ⟨by omega, by omega⟩ ha411 (by decide) (by decide) (by decide) dX9_command_179 (fun f413 H locs hM ha415 o414 => ?_)
                              refine lv_aload_n hx hb dX9_command_180 rfl (lv_at hl 1 rfl) ?_
                              have hf416 : f413 (h) = .inr (11, [.int (zI (Z 0)), .ref (h + 1), .ref (h + 2), .ref (h + 3), .ref (h + 4), .ref (h + 5), .ref (h + 6), .ref (h + 7), .ref (h + 8), .int (zI (Z 9)), .int (zI (Z 10)), .int (zI (Z 11)), .int (zI (Z 12)), .int (zI (Z 13)), .int (zI (Z 14)), .int (zI (Z 15)), .int (zI (Z 16)), .ref (h + 9), .ref (h + 10), .ref (h + 11), .int (zI (↑L : Int)), .int (zI (↑(a + 1) : Int)), .int (zI 1), .ref (h + 12)]) := (o414 (h) (by omega)).trans hf412
                              refine g_get (ci := 11) (v := .ref (h + 12)) (C := RX9) (T := TX9) (N := 24) hx hb hts iU_X9 hown hK hM ⟨by omega, by omega⟩ hf416 rfl 23 (by decide) (hts _ u_1167) (fun _ h9 => h9) rfl dX9_command_181 ?_
                              refine g_iconst hx hb dX9_command_184 ?_
                              refine g_iconst hx hb dX9_command_185 ?_
                              refine g_iast hx hb hK hM ⟨by omega, by omega⟩ ha415 (by decide) (by decide) (by decide) dX9_command_186 (fun f417 H locs hM ha419 o418 => ?_)
                              refine lv_iload_n hx hb dX9_command_187 rfl (lv_at hl 0 rfl) ?_
                              refine g_bipush hx hb dX9_command_188 (by decide) ?_
                              refine g_icmp_ne (tgt := 220) hx hb dX9_command_190 (by decide) (by decide) (by decide) (fun c190 => ?_) (fun c190 => ?_)
                              · skip
                                refine lv_iload_n hx hb dX9_command_220 rfl (lv_at hl 0 rfl) ?_
                                refine g_bipush hx hb dX9_command_221 (by decide) ?_
                                refine g_icmp_eq (tgt := 233) hx hb dX9_command_223 (by decide) (by decide) (by decide) (fun c223 => ?_) (fun c223 => ?_)
                                · exact absurd c223 (by decide)
                                · skip
                                  refine lv_iload_n hx hb dX9_command_226 rfl (lv_at hl 0 rfl) ?_
                                  refine g_bipush hx hb dX9_command_227 (by decide) ?_
                                  refine g_icmp_eq (tgt := 233) hx hb dX9_command_229 (by decide) (by decide) (by decide) (fun c229 => ?_) (fun c229 => ?_)
                                  · exact absurd c229 (by decide)
                                  · skip
                                    have hf420 : f417 (h) = .inr (11, [.int (zI (Z 0)), .ref (h + 1), .ref (h + 2), .ref (h + 3), .ref (h + 4), .ref (h + 5), .ref (h + 6), .ref (h + 7), .ref (h + 8), .int (zI (Z 9)), .int (zI (Z 10)), .int (zI (Z 11)), .int (zI (Z 12)), .int (zI (Z 13)), .int (zI (Z 14)), .int (zI (Z 15)), .int (zI (Z 16)), .ref (h + 9), .ref (h + 10), .ref (h + 11), .int (zI (↑L : Int)), .int (zI (↑(a + 1) : Int)), .int (zI 1), .ref (h + 12)]) := (o418 (h) (by omega)).trans hf416
                                    refine g_vret hx hb hr hlk hK hM dX9_command_232 ?_
                                    have hS : sCmd T L a = (decide (a + 1 < (sNum T L 7 (a + 1) 0).1), (sNum T L 7 (a + 1) 0).1, 12, (sNum T L 7 (a + 1) 0).2, 0, 0) := by
                                      unfold sCmd
                                      rw [if_neg c13, if_neg c19, if_neg c25, if_neg c31, if_pos c37]
                                      unfold sNb
                                      rfl
                                    rw [hS]
                                    have hps8 := hnc390
                                    have hob8 := hf420
                                    have hps9 : (sNum T L 7 (a + 1) 0).1 = a + 1 := hnc390
                                    have hob9 : mdO f417 h (zR Z ↑L ↑(sNum T L 7 (a + 1) 0).1 1) := by rw [hps9]; exact hf420
                                    exact Or.inr ⟨decide_eq_false (by have h7 := hnc390; omega), hob9, ⟨_, ha419⟩, (fun q hq => ((o418 (q) (by omega)).trans ((o414 (q) (by omega)).trans ((o410 (q) (by omega)).trans ((o392 (q) (by omega)).trans ((o380 (q) (by omega)).trans ((o376 (q) (by omega)).trans (o373 (q) (by omega)))))))))⟩
                              · exact absurd c190 (by decide)
                          · exact absurd c142 (by decide)
                      · exact absurd c126 (by decide)
                    · exact absurd c107 (by decide)
                  · exact absurd c96 (by decide)
                · exact absurd c85 (by decide)
              · exact absurd c75 (by decide)
            · exact absurd c53 (by decide)
          · skip
            refine g_iconst hx hb dX9_command_40 ?_
            refine lv_goto (tgt := 45) hx hb dX9_command_41 (by decide) ?_
            refine g_iorL (z1 := 0) (z2 := 1) (z3 := 1) hx hb dX9_command_45 (by decide) ?_
            refine g_put (ci := 11) (v := .int (zI 1)) (ty := .boolean) (C := RX9) (T := TX9) (N := 24) hx hb hts iU_X9 tyX9 tyX9_ok nmX9 hown hK hM ⟨by omega, by omega⟩ hO rfl 22 (by decide) (hts _ u_1166) (fun _ h9 => h9) rfl (by decide +kernel) (by decide) (by decide) (Nat.le_of_ble_eq_true rfl) dX9_command_46 (fun f421 H locs hM hf423 o422 => ?_)
            have hf423 : f421 (h) = .inr (11, [.int (zI (Z 0)), .ref (h + 1), .ref (h + 2), .ref (h + 3), .ref (h + 4), .ref (h + 5), .ref (h + 6), .ref (h + 7), .ref (h + 8), .int (zI (Z 9)), .int (zI (Z 10)), .int (zI (Z 11)), .int (zI (Z 12)), .int (zI (Z 13)), .int (zI (Z 14)), .int (zI (Z 15)), .int (zI (Z 16)), .ref (h + 9), .ref (h + 10), .ref (h + 11), .int (zI (↑L : Int)), .int (zI (↑a : Int)), .int (zI 1), .ref (h + 12)]) := hf423
            refine lv_aload_n hx hb dX9_command_49 rfl (lv_at hl 1 rfl) ?_
            refine g_get (ci := 11) (v := .int (zI 1)) (C := RX9) (T := TX9) (N := 24) hx hb hts iU_X9 hown hK hM ⟨by omega, by omega⟩ hf423 rfl 22 (by decide) (hts _ u_1166) (fun _ h9 => h9) rfl dX9_command_50 ?_
            refine g_if_eq (tgt := 57) hx hb dX9_command_53 (by decide) (by decide) (fun c53 => ?_) (fun c53 => ?_)
            · exact absurd c53 (by decide)
            · skip
              have hf424 := hC.kept (o422 (h + 12) (by omega))
              refine g_vret hx hb hr hlk hK hM dX9_command_56 ?_
              have hS : sCmd T L a = (false, a, 0, 0, 0, 0) := by
                unfold sCmd
                rw [if_neg c13, if_neg c19, if_neg c25, if_neg c31, if_neg c37]
              rw [hS]
              exact Or.inr ⟨rfl, hf423, ⟨_, hf424⟩, (fun q hq => (o422 (q) (by omega)))⟩
