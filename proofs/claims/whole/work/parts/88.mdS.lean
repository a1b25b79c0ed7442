def po_X9_copiesAll (g : gE) (f : gF) (s0 d0 N : Nat) (A0 B0 : Nat → Int) : gF → Prop := fun f1 => arJ g f1 d0 N A0 ∧ ∀ q, q ≠ d0 → f1 q = f q
set_option maxRecDepth 100000 in
set_option maxHeartbeats 1000000 in
/-- copiesAll -/
theorem c_X9_copiesAll (l : Launch) (g : gE) (b0 n : Nat) (f : gF) (s0 d0 N : Nat) (A0 B0 : Nat → Int) (hs0 : b0 ≤ s0 ∧ s0 < b0 + n) (hd0 : b0 ≤ d0 ∧ d0 < b0 + n) (hne : s0 ≠ d0) (hN : N < 10000) (hA0 : arJ g f s0 N A0) (hB0 : arJ g f d0 N B0) : cV l yX9_copiesAll cX9_copiesAll 3 none 0 0 [.ref s0, .ref d0] g b0 n f (po_X9_copiesAll g f s0 d0 N A0 B0) := by
  refine gs_v (cc := cX9_copiesAll) (maxL := 3) (ret := none) (by decide) (Nat.le_of_ble_eq_true rfl) ?_
  intro p e0 s m args below meth c ls hx hb hr hml hown hts hlk hK hM hl
  have hl : lv_has ls 3 [(0, .ref s0), (1, .ref d0)] := hl
  refine g_iconst hx hb dX9_copiesAll_0 ?_
  refine lv_istore_n (lv' := [(2, .int (zI 0)), (0, .ref s0), (1, .ref d0)]) hx hb dX9_copiesAll_1 rfl hl (by decide) rfl (fun ls hl => ?_)
  have lp2 : ∀ (k : Nat), ∀ (i : Nat) (B1 : Nat → Int) (fL : gF) (H : Heap) (locs : List Loc) (ls : Array Slot), (N - i < k) → (i ≤ N) → (∀ j, j < i → B1 j = A0 j) → (∀ q, q ≠ d0 → fL q = f q) → gH g b0 n fL s.heap H locs → (arJ g fL s0 N A0) → (arJ g fL d0 N B1) → lv_has ls 3 [(0, .ref s0), (1, .ref d0), (2, .int (zI (↑i : Int)))] → W p l e0 { frames := 0, cells := 0, slots := 0, locals := 0 } s m args below meth c H locs 0 0 (MQ below (va_Qv (po_X9_copiesAll g f s0 d0 N A0 B0) (gB g b0 n) (gA b0)) args s 0 0 (gA b0)) (F0 m 2 ls []) := by
    intro k
    induction k with
    | zero =>
      intro i B1 fL H locs ls hk hi hcp hfr hM hL0 hL1 hl
      exact absurd hk (Nat.not_lt_zero _)
    | succ k ih2 =>
      intro i B1 fL H locs ls hk hi hcp hfr hM hL0 hL1 hl
      refine lv_iload_n hx hb dX9_copiesAll_2 rfl (lv_at hl 2 rfl) ?_
      refine lv_aload_n hx hb dX9_copiesAll_3 rfl (lv_at hl 0 rfl) ?_
      refine g_alenJ hx hb hK hM ⟨by omega, by omega⟩ hL0 dX9_copiesAll_4 ?_
      refine g_icmp_ge (tgt := 20) hx hb dX9_copiesAll_5 (by decide) ⟨by omega, by omega⟩ ⟨by omega, by omega⟩ (fun c5 => ?_) (fun c5 => ?_)
      · skip
        refine g_vret hx hb hr hlk hK hM dX9_copiesAll_20 ?_
        exact ⟨hL1.cong (fun k9 hk9 => hcp k9 (by omega)), (fun q hq => (hfr (q) (by omega)))⟩
      · skip
        refine lv_aload_n hx hb dX9_copiesAll_8 rfl (lv_at hl 1 rfl) ?_
        refine lv_iload_n hx hb dX9_copiesAll_9 rfl (lv_at hl 2 rfl) ?_
        refine lv_aload_n hx hb dX9_copiesAll_10 rfl (lv_at hl 0 rfl) ?_
        refine lv_iload_n hx hb dX9_copiesAll_11 rfl (lv_at hl 2 rfl) ?_
        refine g_lald hx hb hK hM ⟨by omega, by omega⟩ hL0 (by omega) (by omega) (by omega) dX9_copiesAll_12 ?_
        show W _ _ _ _ _ _ _ _ _ _ _ _ _ _ _ (F0 _ _ _ (.long (zL (A0 i)) :: _))
        refine g_last hx hb hK hM ⟨by omega, by omega⟩ hL1 (by omega) (by omega) (by omega) dX9_copiesAll_13 (fun f1 H locs hM ha3 o2 => ?_)
        refine lv_iinc (v := zI ((↑i : Int) + 1)) (lv' := [(2, .int (zI ((↑i : Int) + 1))), (0, .ref s0), (1, .ref d0)]) hx hb dX9_copiesAll_14 hl (k := 2) rfl (zI_add _ _) (by decide) rfl (fun ls hl => ?_)
        refine lv_goto (tgt := 2) hx hb dX9_copiesAll_17 (by decide) ?_
        have hf4 := hL0.kept (o2 (s0) (by omega))
        exact ih2 (i + 1) _ f1 _ _ _ (by omega) (by omega) (fun j hj => by rcases Nat.lt_or_ge j i with q | q; rw [pu_n (by omega)]; exact hcp j q; rw [show j = i by omega]; exact pu_s _ _ _) (fun q hq => ((o2 (q) (by omega)).trans (hfr (q) (by omega)))) hM hf4 ha3 (lv_sub hl [1, 2, 0] rfl)
  exact lp2 ((N + 1)) 0 _ f _ _ _ (by omega) (by omega) (fun j hj => absurd hj (Nat.not_lt_zero _)) (fun q hq => rfl) hM hA0 hB0 (lv_sub hl [1, 2, 0] rfl)

def po_X9_copiesAll_ (g : gE) (f : gF) (s0 d0 N : Nat) (A0 B0 : Nat → Int) : gF → Prop := fun f1 => arI g f1 d0 N A0 ∧ ∀ q, q ≠ d0 → f1 q = f q
set_option maxRecDepth 100000 in
set_option maxHeartbeats 1000000 in
/-- copiesAll_ -/
theorem c_X9_copiesAll_ (l : Launch) (g : gE) (b0 n : Nat) (f : gF) (s0 d0 N : Nat) (A0 B0 : Nat → Int) (hs0 : b0 ≤ s0 ∧ s0 < b0 + n) (hd0 : b0 ≤ d0 ∧ d0 < b0 + n) (hne : s0 ≠ d0) (hN : N < 10000) (hA0 : arI g f s0 N A0) (hB0 : arI g f d0 N B0) : cV l yX9_copiesAll_ cX9_copiesAll_ 3 none 0 0 [.ref s0, .ref d0] g b0 n f (po_X9_copiesAll_ g f s0 d0 N A0 B0) := by
  refine gs_v (cc := cX9_copiesAll_) (maxL := 3) (ret := none) (by decide) (Nat.le_of_ble_eq_true rfl) ?_
  intro p e0 s m args below meth c ls hx hb hr hml hown hts hlk hK hM hl
  have hl : lv_has ls 3 [(0, .ref s0), (1, .ref d0)] := hl
  refine g_iconst hx hb dX9_copiesAll__0 ?_
  refine lv_istore_n (lv' := [(2, .int (zI 0)), (0, .ref s0), (1, .ref d0)]) hx hb dX9_copiesAll__1 rfl hl (by decide) rfl (fun ls hl => ?_)
  have lp2 : ∀ (k : Nat), ∀ (i : Nat) (B1 : Nat → Int) (fL : gF) (H : Heap) (locs : List Loc) (ls : Array Slot), (N - i < k) → (i ≤ N) → (∀ j, j < i → B1 j = A0 j) → (∀ q, q ≠ d0 → fL q = f q) → gH g b0 n fL s.heap H locs → (arI g fL s0 N A0) → (arI g fL d0 N B1) → lv_has ls 3 [(0, .ref s0), (1, .ref d0), (2, .int (zI (↑i : Int)))] → W p l e0 { frames := 0, cells := 0, slots := 0, locals := 0 } s m args below meth c H locs 0 0 (MQ below (va_Qv (po_X9_copiesAll_ g f s0 d0 N A0 B0) (gB g b0 n) (gA b0)) args s 0 0 (gA b0)) (F0 m 2 ls []) := by
    intro k
    induction k with
    | zero =>
      intro i B1 fL H locs ls hk hi hcp hfr hM hL0 hL1 hl
      exact absurd hk (Nat.not_lt_zero _)
    | succ k ih2 =>
      intro i B1 fL H locs ls hk hi hcp hfr hM hL0 hL1 hl
      refine lv_iload_n hx hb dX9_copiesAll__2 rfl (lv_at hl 2 rfl) ?_
      refine lv_aload_n hx hb dX9_copiesAll__3 rfl (lv_at hl 0 rfl) ?_
      refine g_alenI hx hb hK hM ⟨by omega, by omega⟩ hL0 dX9_copiesAll__4 ?_
      refine g_icmp_ge (tgt := 20) hx hb dX9_copiesAll__5 (by decide) ⟨by omega, by omega⟩ ⟨by omega, by omega⟩ (fun c5 => ?_) (fun c5 => ?_)
      · skip
        refine g_vret hx hb hr hlk hK hM dX9_copiesAll__20 ?_
        exact ⟨hL1.cong (fun k9 hk9 => hcp k9 (by omega)), (fun q hq => (hfr (q) (by omega)))⟩
      · skip
        refine lv_aload_n hx hb dX9_copiesAll__8 rfl (lv_at hl 1 rfl) ?_
        refine lv_iload_n hx hb dX9_copiesAll__9 rfl (lv_at hl 2 rfl) ?_
        refine lv_aload_n hx hb dX9_copiesAll__10 rfl (lv_at hl 0 rfl) ?_
        refine lv_iload_n hx hb dX9_copiesAll__11 rfl (lv_at hl 2 rfl) ?_
        refine g_iald hx hb hK hM ⟨by omega, by omega⟩ hL0 (by omega) (by omega) (by omega) dX9_copiesAll__12 ?_
        show W _ _ _ _ _ _ _ _ _ _ _ _ _ _ _ (F0 _ _ _ (.int (zI (A0 i)) :: _))
        refine g_iast hx hb hK hM ⟨by omega, by omega⟩ hL1 (by omega) (by omega) (by omega) dX9_copiesAll__13 (fun f1 H locs hM ha3 o2 => ?_)
        refine lv_iinc (v := zI ((↑i : Int) + 1)) (lv' := [(2, .int (zI ((↑i : Int) + 1))), (0, .ref s0), (1, .ref d0)]) hx hb dX9_copiesAll__14 hl (k := 2) rfl (zI_add _ _) (by decide) rfl (fun ls hl => ?_)
        refine lv_goto (tgt := 2) hx hb dX9_copiesAll__17 (by decide) ?_
        have hf4 := hL0.kept (o2 (s0) (by omega))
        exact ih2 (i + 1) _ f1 _ _ _ (by omega) (by omega) (fun j hj => by rcases Nat.lt_or_ge j i with q | q; rw [pu_n (by omega)]; exact hcp j q; rw [show j = i by omega]; exact pu_s _ _ _) (fun q hq => ((o2 (q) (by omega)).trans (hfr (q) (by omega)))) hM hf4 ha3 (lv_sub hl [1, 2, 0] rfl)
  exact lp2 ((N + 1)) 0 _ f _ _ _ (by omega) (by omega) (fun j hj => absurd hj (Nat.not_lt_zero _)) (fun q hq => rfl) hM hA0 hB0 (lv_sub hl [1, 2, 0] rfl)

def po_X9_save (g : gE) (f : gF) (h : Nat) (Z M M2 St Mn Pr St2 Mn2 Pr2 : Nat → Int) (sc : Nat → Nat) (ex : Nat → Int) : Int32 → gF → Prop := fun r f1 => r = zI (sCnt ex 6) ∧ mdO f1 h (pu (pu Z 10 (Z 9)) 16 1) ∧ arJ g f1 (h + 2) 2058 M ∧ arI g f1 (h + 6) 1800 St ∧ arI g f1 (h + 7) 6 Mn ∧ arI g f1 (h + 8) 6 Pr ∧ ∀ q, (q ≠ h ∧ q ≠ h + 2 ∧ q ≠ h + 6 ∧ q ≠ h + 7 ∧ q ≠ h + 8) → f1 q = f q
set_option maxRecDepth 100000 in
set_option maxHeartbeats 1000000 in
/-- save -/
theorem c_X9_save (l : Launch) (g : gE) (b0 n : Nat) (f : gF) (h : Nat) (Z M M2 St Mn Pr St2 Mn2 Pr2 : Nat → Int) (sc : Nat → Nat) (ex : Nat → Int) (hO : mdO f h Z) (hrg : b0 ≤ h ∧ h + 13 ≤ b0 + n) (hPl : arJ g f (h + 1) 2058 M) (hP2 : arJ g f (h + 2) 2058 M2) (hSt : arI g f (h + 3) 1800 St) (hMn : arI g f (h + 4) 6 Mn) (hPr : arI g f (h + 5) 6 Pr) (hS2 : arI g f (h + 6) 1800 St2) (hM2 : arI g f (h + 7) 6 Mn2) (hR2 : arI g f (h + 8) 6 Pr2) (hmn : mnOk Mn sc ex) (hr9 : rI (Z 9)) : cI l yX9_save cX9_save 1 (some .int) 1 22 [.ref h] g b0 n f (po_X9_save g f h Z M M2 St Mn Pr St2 Mn2 Pr2 sc ex) := by
  refine gs_i (cc := cX9_save) (maxL := 1) (ret := (some .int)) (by decide) (Nat.le_of_ble_eq_true rfl) ?_
  intro p e0 s m args below meth c ls hx hb hr hml hown hts hlk hK hM hl
  have hl : lv_has ls 1 [(0, .ref h)] := hl
  refine lv_aload_n hx hb dX9_save_0 rfl (lv_at hl 0 rfl) ?_
  refine g_get (ci := 11) (v := .ref (h + 1)) (C := RX9) (T := TX9) (N := 24) hx hb hts iU_X9 hown hK hM ⟨by omega, by omega⟩ hO rfl 1 (by decide) (hts _ u_1145) (fun _ h9 => h9) rfl dX9_save_1 ?_
  refine lv_aload_n hx hb dX9_save_4 rfl (lv_at hl 0 rfl) ?_
  refine g_get (ci := 11) (v := .ref (h + 2)) (C := RX9) (T := TX9) (N := 24) hx hb hts iU_X9 hown hK hM ⟨by omega, by omega⟩ hO rfl 2 (by decide) (hts _ u_1146) (fun _ h9 => h9) rfl dX9_save_5 ?_
  have hC1 := c_X9_copiesAll l g b0 n f (h + 1) (h + 2) 2058 M M2 (by omega) (by omega) (by omega) (by decide) hPl hP2
  refine g_callSv (As := [.ref (h + 1), .ref (h + 2)]) (rest := []) ⟨hx, hb, hml, hown, hts⟩ hK hM hC1 (cuS (n := 2) hts u_1586 u_1584 u_10 (by decide) u_1585 ⟨Nat.le_of_ble_eq_true rfl, Nat.le_of_ble_eq_true rfl⟩) rfl hl.1 rfl (Nat.le_of_ble_eq_true rfl) dX9_save_8 ⟨Nat.zero_le _, Nat.zero_le _⟩ (fun f2 H locs hM hp3 => ?_)
  obtain ⟨hcp4, o5⟩ := hp3
  refine lv_aload_n hx hb dX9_save_11 rfl (lv_at hl 0 rfl) ?_
  have hf6 : f2 (h) = .inr (11, [.int (zI (Z 0)), .ref (h + 1), .ref (h + 2), .ref (h + 3), .ref (h + 4), .ref (h + 5), .ref (h + 6), .ref (h + 7), .ref (h + 8), .int (zI (Z 9)), .int (zI (Z 10)), .int (zI (Z 11)), .int (zI (Z 12)), .int (zI (Z 13)), .int (zI (Z 14)), .int (zI (Z 15)), .int (zI (Z 16)), .ref (h + 9), .ref (h + 10), .ref (h + 11), .int (zI (Z 20)), .int (zI (Z 21)), .int (zI (Z 22)), .ref (h + 12)]) := (o5 (h) (by omega)).trans hO
  refine g_get (ci := 11) (v := .ref (h + 3)) (C := RX9) (T := TX9) (N := 24) hx hb hts iU_X9 hown hK hM ⟨by omega, by omega⟩ hf6 rfl 3 (by decide) (hts _ u_1147) (fun _ h9 => h9) rfl dX9_save_12 ?_
  refine lv_aload_n hx hb dX9_save_15 rfl (lv_at hl 0 rfl) ?_
  refine g_get (ci := 11) (v := .ref (h + 6)) (C := RX9) (T := TX9) (N := 24) hx hb hts iU_X9 hown hK hM ⟨by omega, by omega⟩ hf6 rfl 6 (by decide) (hts _ u_1150) (fun _ h9 => h9) rfl dX9_save_16 ?_
  have hf7 := hSt.kept (o5 (h + 3) (by omega))
  have hf8 := hS2.kept (o5 (h + 6) (by omega))
  have hC9 := c_X9_copiesAll_ l g b0 n f2 (h + 3) (h + 6) 1800 St St2 (by omega) (by omega) (by omega) (by decide) hf7 hf8
  refine g_callSv (As := [.ref (h + 3), .ref (h + 6)]) (rest := []) ⟨hx, hb, hml, hown, hts⟩ hK hM hC9 (cuS (n := 2) hts u_1589 u_1587 u_10 (by decide) u_1588 ⟨Nat.le_of_ble_eq_true rfl, Nat.le_of_ble_eq_true rfl⟩) rfl hl.1 rfl (Nat.le_of_ble_eq_true rfl) dX9_save_19 ⟨Nat.zero_le _, Nat.zero_le _⟩ (fun f10 H locs hM hp11 => ?_)
  obtain ⟨hcp12, o13⟩ := hp11
  refine lv_aload_n hx hb dX9_save_22 rfl (lv_at hl 0 rfl) ?_
  have hf14 : f10 (h) = .inr (11, [.int (zI (Z 0)), .ref (h + 1), .ref (h + 2), .ref (h + 3), .ref (h + 4), .ref (h + 5), .ref (h + 6), .ref (h + 7), .ref (h + 8), .int (zI (Z 9)), .int (zI (Z 10)), .int (zI (Z 11)), .int (zI (Z 12)), .int (zI (Z 13)), .int (zI (Z 14)), .int (zI (Z 15)), .int (zI (Z 16)), .ref (h + 9), .ref (h + 10), .ref (h + 11), .int (zI (Z 20)), .int (zI (Z 21)), .int (zI (Z 22)), .ref (h + 12)]) := (o13 (h) (by omega)).trans hf6
  refine g_get (ci := 11) (v := .ref (h + 4)) (C := RX9) (T := TX9) (N := 24) hx hb hts iU_X9 hown hK hM ⟨by omega, by omega⟩ hf14 rfl 4 (by decide) (hts _ u_1148) (fun _ h9 => h9) rfl dX9_save_23 ?_
  refine lv_aload_n hx hb dX9_save_26 rfl (lv_at hl 0 rfl) ?_
  refine g_get (ci := 11) (v := .ref (h + 7)) (C := RX9) (T := TX9) (N := 24) hx hb hts iU_X9 hown hK hM ⟨by omega, by omega⟩ hf14 rfl 7 (by decide) (hts _ u_1151) (fun _ h9 => h9) rfl dX9_save_27 ?_
  have hf15 := hMn.kept ((o13 (h + 4) (by omega)).trans (o5 (h + 4) (by omega)))
  have hf16 := hM2.kept ((o13 (h + 7) (by omega)).trans (o5 (h + 7) (by omega)))
  have hC17 := c_X9_copiesAll_ l g b0 n f10 (h + 4) (h + 7) 6 Mn Mn2 (by omega) (by omega) (by omega) (by decide) hf15 hf16
  refine g_callSv (As := [.ref (h + 4), .ref (h + 7)]) (rest := []) ⟨hx, hb, hml, hown, hts⟩ hK hM hC17 (cuS (n := 2) hts u_1589 u_1587 u_10 (by decide) u_1588 ⟨Nat.le_of_ble_eq_true rfl, Nat.le_of_ble_eq_true rfl⟩) rfl hl.1 rfl (Nat.le_of_ble_eq_true rfl) dX9_save_30 ⟨Nat.zero_le _, Nat.zero_le _⟩ (fun f18 H locs hM hp19 => ?_)
  obtain ⟨hcp20, o21⟩ := hp19
  refine lv_aload_n hx hb dX9_save_33 rfl (lv_at hl 0 rfl) ?_
  have hf22 : f18 (h) = .inr (11, [.int (zI (Z 0)), .ref (h + 1), .ref (h + 2), .ref (h + 3), .ref (h + 4), .ref (h + 5), .ref (h + 6), .ref (h + 7), .ref (h + 8), .int (zI (Z 9)), .int (zI (Z 10)), .int (zI (Z 11)), .int (zI (Z 12)), .int (zI (Z 13)), .int (zI (Z 14)), .int (zI (Z 15)), .int (zI (Z 16)), .ref (h + 9), .ref (h + 10), .ref (h + 11), .int (zI (Z 20)), .int (zI (Z 21)), .int (zI (Z 22)), .ref (h + 12)]) := (o21 (h) (by omega)).trans hf14
  refine g_get (ci := 11) (v := .ref (h + 5)) (C := RX9) (T := TX9) (N := 24) hx hb hts iU_X9 hown hK hM ⟨by omega, by omega⟩ hf22 rfl 5 (by decide) (hts _ u_1149) (fun _ h9 => h9) rfl dX9_save_34 ?_
  refine lv_aload_n hx hb dX9_save_37 rfl (lv_at hl 0 rfl) ?_
  refine g_get (ci := 11) (v := .ref (h + 8)) (C := RX9) (T := TX9) (N := 24) hx hb hts iU_X9 hown hK hM ⟨by omega, by omega⟩ hf22 rfl 8 (by decide) (hts _ u_1152) (fun _ h9 => h9) rfl dX9_save_38 ?_
  have hf23 := hPr.kept ((o21 (h + 5) (by omega)).trans ((o13 (h + 5) (by omega)).trans (o5 (h + 5) (by omega))))
  have hf24 := hR2.kept ((o21 (h + 8) (by omega)).trans ((o13 (h + 8) (by omega)).trans (o5 (h + 8) (by omega))))
  have hC25 := c_X9_copiesAll_ l g b0 n f18 (h + 5) (h + 8) 6 Pr Pr2 (by omega) (by omega) (by omega) (by decide) hf23 hf24
  refine g_callSv (As := [.ref (h + 5), .ref (h + 8)]) (rest := []) ⟨hx, hb, hml, hown, hts⟩ hK hM hC25 (cuS (n := 2) hts u_1589 u_1587 u_10 (by decide) u_1588 ⟨Nat.le_of_ble_eq_true rfl, Nat.le_of_ble_eq_true rfl⟩) rfl hl.1 rfl (Nat.le_of_ble_eq_true rfl) dX9_save_41 ⟨Nat.zero_le _, Nat.zero_le _⟩ (fun f26 H locs hM hp27 => ?_)
  obtain ⟨hcp28, o29⟩ := hp27
  refine lv_aload_n hx hb dX9_save_44 rfl (lv_at hl 0 rfl) ?_
  refine lv_aload_n hx hb dX9_save_45 rfl (lv_at hl 0 rfl) ?_
  have hf30 : f26 (h) = .inr (11, [.int (zI (Z 0)), .ref (h + 1), .ref (h + 2), .ref (h + 3), .ref (h + 4), .ref (h + 5), .ref (h + 6), .ref (h + 7), .ref (h + 8), .int (zI (Z 9)), .int (zI (Z 10)), .int (zI (Z 11)), .int (zI (Z 12)), .int (zI (Z 13)), .int (zI (Z 14)), .int (zI (Z 15)), .int (zI (Z 16)), .ref (h + 9), .ref (h + 10), .ref (h + 11), .int (zI (Z 20)), .int (zI (Z 21)), .int (zI (Z 22)), .ref (h + 12)]) := (o29 (h) (by omega)).trans hf22
  refine g_get (ci := 11) (v := .int (zI (Z 9))) (C := RX9) (T := TX9) (N := 24) hx hb hts iU_X9 hown hK hM ⟨by omega, by omega⟩ hf30 rfl 9 (by decide) (hts _ u_1153) (fun _ h9 => h9) rfl dX9_save_46 ?_
  refine g_put (ci := 11) (v := .int (zI (Z 9))) (ty := .int) (C := RX9) (T := TX9) (N := 24) hx hb hts iU_X9 tyX9 tyX9_ok nmX9 hown hK hM ⟨by omega, by omega⟩ hf30 rfl 10 (by decide) (hts _ u_1154) (fun _ h9 => h9) rfl (by decide +kernel) rfl rfl (Nat.le_of_ble_eq_true rfl) dX9_save_49 (fun f31 H locs hM hf33 o32 => ?_)
  have hf33 : f31 (h) = .inr (11, [.int (zI (Z 0)), .ref (h + 1), .ref (h + 2), .ref (h + 3), .ref (h + 4), .ref (h + 5), .ref (h + 6), .ref (h + 7), .ref (h + 8), .int (zI (Z 9)), .int (zI (Z 9)), .int (zI (Z 11)), .int (zI (Z 12)), .int (zI (Z 13)), .int (zI (Z 14)), .int (zI (Z 15)), .int (zI (Z 16)), .ref (h + 9), .ref (h + 10), .ref (h + 11), .int (zI (Z 20)), .int (zI (Z 21)), .int (zI (Z 22)), .ref (h + 12)]) := hf33
  refine lv_aload_n hx hb dX9_save_52 rfl (lv_at hl 0 rfl) ?_
  refine g_iconst hx hb dX9_save_53 ?_
  refine g_put (ci := 11) (v := .int (zI 1)) (ty := .boolean) (C := RX9) (T := TX9) (N := 24) hx hb hts iU_X9 tyX9 tyX9_ok nmX9 hown hK hM ⟨by omega, by omega⟩ hf33 rfl 16 (by decide) (hts _ u_1160) (fun _ h9 => h9) rfl (by decide +kernel) (by decide) (by decide) (Nat.le_of_ble_eq_true rfl) dX9_save_54 (fun f34 H locs hM hf36 o35 => ?_)
  have hf36 : f34 (h) = .inr (11, [.int (zI (Z 0)), .ref (h + 1), .ref (h + 2), .ref (h + 3), .ref (h + 4), .ref (h + 5), .ref (h + 6), .ref (h + 7), .ref (h + 8), .int (zI (Z 9)), .int (zI (Z 9)), .int (zI (Z 11)), .int (zI (Z 12)), .int (zI (Z 13)), .int (zI (Z 14)), .int (zI (Z 15)), .int (zI 1), .ref (h + 9), .ref (h + 10), .ref (h + 11), .int (zI (Z 20)), .int (zI (Z 21)), .int (zI (Z 22)), .ref (h + 12)]) := hf36
  refine lv_aload_n hx hb dX9_save_57 rfl (lv_at hl 0 rfl) ?_
  have hf37 := hf15.kept ((o35 (h + 4) (by omega)).trans ((o32 (h + 4) (by omega)).trans ((o29 (h + 4) (by omega)).trans (o21 (h + 4) (by omega)))))
  have hC38 := c_X9_branches l g b0 n f34 h (pu (pu Z 10 (Z 9)) 16 1) Mn sc ex hf36 hrg hf37 hmn
  refine g_callVi (ci := 11) (C := RX9) (T := TX9) (N := 24) (As := []) (rest := []) ⟨hx, hb, hml, hown, hts⟩ hK hM hC38 (cuV (n := 0) hts u_1593 u_1590 u_10 (by decide) u_1592 us_73 ⟨Nat.le_of_ble_eq_true rfl, Nat.le_of_ble_eq_true rfl⟩) ⟨by omega, by omega⟩ hf36 rfl rfl hl.1 rfl (Nat.le_of_ble_eq_true rfl) dX9_save_58 ⟨Nat.zero_le _, Nat.zero_le _⟩ (fun r58 f39 H locs hM hp40 => ?_)
  obtain ⟨rfl, rfl⟩ := hp40
  have hf41 := hcp4.kept ((o35 (h + 2) (by omega)).trans ((o32 (h + 2) (by omega)).trans ((o29 (h + 2) (by omega)).trans ((o21 (h + 2) (by omega)).trans (o13 (h + 2) (by omega))))))
  have hf42 := hcp12.kept ((o35 (h + 6) (by omega)).trans ((o32 (h + 6) (by omega)).trans ((o29 (h + 6) (by omega)).trans (o21 (h + 6) (by omega)))))
  have hf43 := hcp20.kept ((o35 (h + 7) (by omega)).trans ((o32 (h + 7) (by omega)).trans (o29 (h + 7) (by omega))))
  have hf44 := hcp28.kept ((o35 (h + 8) (by omega)).trans (o32 (h + 8) (by omega)))
  refine g_iret hx hb hr hlk hK hM dX9_save_61 ?_
  exact ⟨rfl, hf36, hf41, hf42, hf43, hf44, (fun q hq => ((o35 (q) (by omega)).trans ((o32 (q) (by omega)).trans ((o29 (q) (by omega)).trans ((o21 (q) (by omega)).trans ((o13 (q) (by omega)).trans (o5 (q) (by omega))))))))⟩

def po_X9_restore (g : gE) (f : gF) (h : Nat) (Z M M2 St Mn Pr St2 Mn2 Pr2 : Nat → Int) (sc : Nat → Nat) (ex : Nat → Int) : Int32 → gF → Prop := fun r f1 => (Z 16 = 0 ∧ mdO f1 h (pu Z 0 1) ∧ ∀ q, q ≠ h → f1 q = f q) ∨ (Z 16 = 1 ∧ r = zI (sCnt ex 6) ∧ mdO f1 h (pu (pu Z 0 0) 9 (Z 10)) ∧ arJ g f1 (h + 1) 2058 M2 ∧ arI g f1 (h + 3) 1800 St2 ∧ arI g f1 (h + 4) 6 Mn2 ∧ arI g f1 (h + 5) 6 Pr2 ∧ ∀ q, (q ≠ h ∧ q ≠ h + 1 ∧ q ≠ h + 3 ∧ q ≠ h + 4 ∧ q ≠ h + 5) → f1 q = f q)
set_option maxRecDepth 100000 in
set_option maxHeartbeats 1000000 in
/-- restore -/
theorem c_X9_restore (l : Launch) (g : gE) (b0 n : Nat) (f : gF) (h : Nat) (Z M M2 St Mn Pr St2 Mn2 Pr2 : Nat → Int) (sc : Nat → Nat) (ex : Nat → Int) (hO : mdO f h Z) (hrg : b0 ≤ h ∧ h + 13 ≤ b0 + n) (hPl : arJ g f (h + 1) 2058 M) (hP2 : arJ g f (h + 2) 2058 M2) (hSt : arI g f (h + 3) 1800 St) (hMn : arI g f (h + 4) 6 Mn) (hPr : arI g f (h + 5) 6 Pr) (hS2 : arI g f (h + 6) 1800 St2) (hM2 : arI g f (h + 7) 6 Mn2) (hR2 : arI g f (h + 8) 6 Pr2) (hz16 : Z 16 = 0 ∨ Z 16 = 1) (hmn : Z 16 = 1 → mnOk Mn2 sc ex) (hr10 : rI (Z 10)) : cI l yX9_restore cX9_restore 1 (some .int) 1 22 [.ref h] g b0 n f (po_X9_restore g f h Z M M2 St Mn Pr St2 Mn2 Pr2 sc ex) := by
  refine gs_i (cc := cX9_restore) (maxL := 1) (ret := (some .int)) (by decide) (Nat.le_of_ble_eq_true rfl) ?_
  intro p e0 s m args below meth c ls hx hb hr hml hown hts hlk hK hM hl
  have hl : lv_has ls 1 [(0, .ref h)] := hl
  unfold po_X9_restore
  refine lv_aload_n hx hb dX9_restore_0 rfl (lv_at hl 0 rfl) ?_
  refine g_iconst hx hb dX9_restore_1 ?_
  refine g_put (ci := 11) (v := .int (zI 0)) (ty := .int) (C := RX9) (T := TX9) (N := 24) hx hb hts iU_X9 tyX9 tyX9_ok nmX9 hown hK hM ⟨by omega, by omega⟩ hO rfl 0 (by decide) (hts _ u_1144) (fun _ h9 => h9) rfl (by decide +kernel) rfl rfl (Nat.le_of_ble_eq_true rfl) dX9_restore_2 (fun f1 H locs hM hf3 o2 => ?_)
  have hf3 : f1 (h) = .inr (11, [.int (zI 0), .ref (h + 1), .ref (h + 2), .ref (h + 3), .ref (h + 4), .ref (h + 5), .ref (h + 6), .ref (h + 7), .ref (h + 8), .int (zI (Z 9)), .int (zI (Z 10)), .int (zI (Z 11)), .int (zI (Z 12)), .int (zI (Z 13)), .int (zI (Z 14)), .int (zI (Z 15)), .int (zI (Z 16)), .ref (h + 9), .ref (h + 10), .ref (h + 11), .int (zI (Z 20)), .int (zI (Z 21)), .int (zI (Z 22)), .ref (h + 12)]) := hf3
  refine lv_aload_n hx hb dX9_restore_5 rfl (lv_at hl 0 rfl) ?_
  refine g_get (ci := 11) (v := .int (zI (Z 16))) (C := RX9) (T := TX9) (N := 24) hx hb hts iU_X9 hown hK hM ⟨by omega, by omega⟩ hf3 rfl 16 (by decide) (hts _ u_1160) (fun _ h9 => h9) rfl dX9_restore_6 ?_
  refine g_if_ne (tgt := 18) hx hb dX9_restore_9 (by decide) (by rcases hz16 with q | q <;> rw [q] <;> decide) (fun c9 => ?_) (fun c9 => ?_)
  · skip
    refine lv_aload_n hx hb dX9_restore_18 rfl (lv_at hl 0 rfl) ?_
    refine g_get (ci := 11) (v := .ref (h + 2)) (C := RX9) (T := TX9) (N := 24) hx hb hts iU_X9 hown hK hM ⟨by omega, by omega⟩ hf3 rfl 2 (by decide) (hts _ u_1146) (fun _ h9 => h9) rfl dX9_restore_19 ?_
    refine lv_aload_n hx hb dX9_restore_22 rfl (lv_at hl 0 rfl) ?_
    refine g_get (ci := 11) (v := .ref (h + 1)) (C := RX9) (T := TX9) (N := 24) hx hb hts iU_X9 hown hK hM ⟨by omega, by omega⟩ hf3 rfl 1 (by decide) (hts _ u_1145) (fun _ h9 => h9) rfl dX9_restore_23 ?_
    have hf4 := hP2.kept (o2 (h + 2) (by omega))
    have hf5 := hPl.kept (o2 (h + 1) (by omega))
    have hC6 := c_X9_copiesAll l g b0 n f1 (h + 2) (h + 1) 2058 M2 M (by omega) (by omega) (by omega) (by decide) hf4 hf5
    refine g_callSv (As := [.ref (h + 2), .ref (h + 1)]) (rest := []) ⟨hx, hb, hml, hown, hts⟩ hK hM hC6 (cuS (n := 2) hts u_1586 u_1584 u_10 (by decide) u_1585 ⟨Nat.le_of_ble_eq_true rfl, Nat.le_of_ble_eq_true rfl⟩) rfl hl.1 rfl (Nat.le_of_ble_eq_true rfl) dX9_restore_26 ⟨Nat.zero_le _, Nat.zero_le _⟩ (fun f7 H locs hM hp8 => ?_)
    obtain ⟨hcp9, o10⟩ := hp8
    refine lv_aload_n hx hb dX9_restore_29 rfl (lv_at hl 0 rfl) ?_
    have hf11 : f7 (h) = .inr (11, [.int (zI 0), .ref (h + 1), .ref (h + 2), .ref (h + 3), .ref (h + 4), .ref (h + 5), .ref (h + 6), .ref (h + 7), .ref (h + 8), .int (zI (Z 9)), .int (zI (Z 10)), .int (zI (Z 11)), .int (zI (Z 12)), .int (zI (Z 13)), .int (zI (Z 14)), .int (zI (Z 15)), .int (zI (Z 16)), .ref (h + 9), .ref (h + 10), .ref (h + 11), .int (zI (Z 20)), .int (zI (Z 21)), .int (zI (Z 22)), .ref (h + 12)]) := (o10 (h) (by omega)).trans hf3
    refine g_get (ci := 11) (v := .ref (h + 6)) (C := RX9) (T := TX9) (N := 24) hx hb hts iU_X9 hown hK hM ⟨by omega, by omega⟩ hf11 rfl 6 (by decide) (hts _ u_1150) (fun _ h9 => h9) rfl dX9_restore_30 ?_
    refine lv_aload_n hx hb dX9_restore_33 rfl (lv_at hl 0 rfl) ?_
    refine g_get (ci := 11) (v := .ref (h + 3)) (C := RX9) (T := TX9) (N := 24) hx hb hts iU_X9 hown hK hM ⟨by omega, by omega⟩ hf11 rfl 3 (by decide) (hts _ u_1147) (fun _ h9 => h9) rfl dX9_restore_34 ?_
    have hf12 := hS2.kept ((o10 (h + 6) (by omega)).trans (o2 (h + 6) (by omega)))
    have hf13 := hSt.kept ((o10 (h + 3) (by omega)).trans (o2 (h + 3) (by omega)))
    have hC14 := c_X9_copiesAll_ l g b0 n f7 (h + 6) (h + 3) 1800 St2 St (by omega) (by omega) (by omega) (by decide) hf12 hf13
    refine g_callSv (As := [.ref (h + 6), .ref (h + 3)]) (rest := []) ⟨hx, hb, hml, hown, hts⟩ hK hM hC14 (cuS (n := 2) hts u_1589 u_1587 u_10 (by decide) u_1588 ⟨Nat.le_of_ble_eq_true rfl, Nat.le_of_ble_eq_true rfl⟩) rfl hl.1 rfl (Nat.le_of_ble_eq_true rfl) dX9_restore_37 ⟨Nat.zero_le _, Nat.zero_le _⟩ (fun f15 H locs hM hp16 => ?_)
    obtain ⟨hcp17, o18⟩ := hp16
    refine lv_aload_n hx hb dX9_restore_40 rfl (lv_at hl 0 rfl) ?_
    have hf19 : f15 (h) = .inr (11, [.int (zI 0), .ref (h + 1), .ref (h + 2), .ref (h + 3), .ref (h + 4), .ref (h + 5), .ref (h + 6), .ref (h + 7), .ref (h + 8), .int (zI (Z 9)), .int (zI (Z 10)), .int (zI (Z 11)), .int (zI (Z 12)), .int (zI (Z 13)), .int (zI (Z 14)), .int (zI (Z 15)), .int (zI (Z 16)), .ref (h + 9), .ref (h + 10), .ref (h + 11), .int (zI (Z 20)), .int (zI (Z 21)), .int (zI (Z 22)), .ref (h + 12)]) := (o18 (h) (by omega)).trans hf11
    refine g_get (ci := 11) (v := .ref (h + 7)) (C := RX9) (T := TX9) (N := 24) hx hb hts iU_X9 hown hK hM ⟨by omega, by omega⟩ hf19 rfl 7 (by decide) (hts _ u_1151) (fun _ h9 => h9) rfl dX9_restore_41 ?_
    refine lv_aload_n hx hb dX9_restore_44 rfl (lv_at hl 0 rfl) ?_
    refine g_get (ci := 11) (v := .ref (h + 4)) (C := RX9) (T := TX9) (N := 24) hx hb hts iU_X9 hown hK hM ⟨by omega, by omega⟩ hf19 rfl 4 (by decide) (hts _ u_1148) (fun _ h9 => h9) rfl dX9_restore_45 ?_
    have hf20 := hM2.kept ((o18 (h + 7) (by omega)).trans ((o10 (h + 7) (by omega)).trans (o2 (h + 7) (by omega))))
    have hf21 := hMn.kept ((o18 (h + 4) (by omega)).trans ((o10 (h + 4) (by omega)).trans (o2 (h + 4) (by omega))))
    have hC22 := c_X9_copiesAll_ l g b0 n f15 (h + 7) (h + 4) 6 Mn2 Mn (by omega) (by omega) (by omega) (by decide) hf20 hf21
    refine g_callSv (As := [.ref (h + 7), .ref (h + 4)]) (rest := []) ⟨hx, hb, hml, hown, hts⟩ hK hM hC22 (cuS (n := 2) hts u_1589 u_1587 u_10 (by decide) u_1588 ⟨Nat.le_of_ble_eq_true rfl, Nat.le_of_ble_eq_true rfl⟩) rfl hl.1 rfl (Nat.le_of_ble_eq_true rfl) dX9_restore_48 ⟨Nat.zero_le _, Nat.zero_le _⟩ (fun f23 H locs hM hp24 => ?_)
    obtain ⟨hcp25, o26⟩ := hp24
    refine lv_aload_n hx hb dX9_restore_51 rfl (lv_at hl 0 rfl) ?_
    have hf27 : f23 (h) = .inr (11, [.int (zI 0), .ref (h + 1), .ref (h + 2), .ref (h + 3), .ref (h + 4), .ref (h + 5), .ref (h + 6), .ref (h + 7), .ref (h + 8), .int (zI (Z 9)), .int (zI (Z 10)), .int (zI (Z 11)), .int (zI (Z 12)), .int (zI (Z 13)), .int (zI (Z 14)), .int (zI (Z 15)), .int (zI (Z 16)), .ref (h + 9), .ref (h + 10), .ref (h + 11), .int (zI (Z 20)), .int (zI (Z 21)), .int (zI (Z 22)), .ref (h + 12)]) := (o26 (h) (by omega)).trans hf19
    refine g_get (ci := 11) (v := .ref (h + 8)) (C := RX9) (T := TX9) (N := 24) hx hb hts iU_X9 hown hK hM ⟨by omega, by omega⟩ hf27 rfl 8 (by decide) (hts _ u_1152) (fun _ h9 => h9) rfl dX9_restore_52 ?_
    refine lv_aload_n hx hb dX9_restore_55 rfl (lv_at hl 0 rfl) ?_
    refine g_get (ci := 11) (v := .ref (h + 5)) (C := RX9) (T := TX9) (N := 24) hx hb hts iU_X9 hown hK hM ⟨by omega, by omega⟩ hf27 rfl 5 (by decide) (hts _ u_1149) (fun _ h9 => h9) rfl dX9_restore_56 ?_
    have hf28 := hR2.kept ((o26 (h + 8) (by omega)).trans ((o18 (h + 8) (by omega)).trans ((o10 (h + 8) (by omega)).trans (o2 (h + 8) (by omega)))))
    have hf29 := hPr.kept ((o26 (h + 5) (by omega)).trans ((o18 (h + 5) (by omega)).trans ((o10 (h + 5) (by omega)).trans (o2 (h + 5) (by omega)))))
    have hC30 := c_X9_copiesAll_ l g b0 n f23 (h + 8) (h + 5) 6 Pr2 Pr (by omega) (by omega) (by omega) (by decide) hf28 hf29
    refine g_callSv (As := [.ref (h + 8), .ref (h + 5)]) (rest := []) ⟨hx, hb, hml, hown, hts⟩ hK hM hC30 (cuS (n := 2) hts u_1589 u_1587 u_10 (by decide) u_1588 ⟨Nat.le_of_ble_eq_true rfl, Nat.le_of_ble_eq_true rfl⟩) rfl hl.1 rfl (Nat.le_of_ble_eq_true rfl) dX9_restore_59 ⟨Nat.zero_le _, Nat.zero_le _⟩ (fun f31 H locs hM hp32 => ?_)
    obtain ⟨hcp33, o34⟩ := hp32
    refine lv_aload_n hx hb dX9_restore_62 rfl (lv_at hl 0 rfl) ?_
    refine lv_aload_n hx hb dX9_restore_63 rfl (lv_at hl 0 rfl) ?_
    have hf35 : f31 (h) = .inr (11, [.int (zI 0), .ref (h + 1), .ref (h + 2), .ref (h + 3), .ref (h + 4), .ref (h + 5), .ref (h + 6), .ref (h + 7), .ref (h + 8), .int (zI (Z 9)), .int (zI (Z 10)), .int (zI (Z 11)), .int (zI (Z 12)), .int (zI (Z 13)), .int (zI (Z 14)), .int (zI (Z 15)), .int (zI (Z 16)), .ref (h + 9), .ref (h + 10), .ref (h + 11), .int (zI (Z 20)), .int (zI (Z 21)), .int (zI (Z 22)), .ref (h + 12)]) := (o34 (h) (by omega)).trans hf27
    refine g_get (ci := 11) (v := .int (zI (Z 10))) (C := RX9) (T := TX9) (N := 24) hx hb hts iU_X9 hown hK hM ⟨by omega, by omega⟩ hf35 rfl 10 (by decide) (hts _ u_1154) (fun _ h9 => h9) rfl dX9_restore_64 ?_
    refine g_put (ci := 11) (v := .int (zI (Z 10))) (ty := .int) (C := RX9) (T := TX9) (N := 24) hx hb hts iU_X9 tyX9 tyX9_ok nmX9 hown hK hM ⟨by omega, by omega⟩ hf35 rfl 9 (by decide) (hts _ u_1153) (fun _ h9 => h9) rfl (by decide +kernel) rfl rfl (Nat.le_of_ble_eq_true rfl) dX9_restore_67 (fun f36 H locs hM hf38 o37 => ?_)
    have hf38 : f36 (h) = .inr (11, [.int (zI 0), .ref (h + 1), .ref (h + 2), .ref (h + 3), .ref (h + 4), .ref (h + 5), .ref (h + 6), .ref (h + 7), .ref (h + 8), .int (zI (Z 10)), .int (zI (Z 10)), .int (zI (Z 11)), .int (zI (Z 12)), .int (zI (Z 13)), .int (zI (Z 14)), .int (zI (Z 15)), .int (zI (Z 16)), .ref (h + 9), .ref (h + 10), .ref (h + 11), .int (zI (Z 20)), .int (zI (Z 21)), .int (zI (Z 22)), .ref (h + 12)]) := hf38
    refine lv_aload_n hx hb dX9_restore_70 rfl (lv_at hl 0 rfl) ?_
    have hf39 := hcp25.kept ((o37 (h + 4) (by omega)).trans (o34 (h + 4) (by omega)))
    have hC40 := c_X9_branches l g b0 n f36 h (pu (pu Z 0 0) 9 (Z 10)) Mn2 sc ex hf38 hrg hf39 (hmn (by omega))
    refine g_callVi (ci := 11) (C := RX9) (T := TX9) (N := 24) (As := []) (rest := []) ⟨hx, hb, hml, hown, hts⟩ hK hM hC40 (cuV (n := 0) hts u_1593 u_1590 u_10 (by decide) u_1592 us_73 ⟨Nat.le_of_ble_eq_true rfl, Nat.le_of_ble_eq_true rfl⟩) ⟨by omega, by omega⟩ hf38 rfl rfl hl.1 rfl (Nat.le_of_ble_eq_true rfl) dX9_restore_71 ⟨Nat.zero_le _, Nat.zero_le _⟩ (fun r71 f41 H locs hM hp42 => ?_)
    obtain ⟨rfl, rfl⟩ := hp42
    have hf43 := hcp9.kept ((o37 (h + 1) (by omega)).trans ((o34 (h + 1) (by omega)).trans ((o26 (h + 1) (by omega)).trans (o18 (h + 1) (by omega)))))
    have hf44 := hcp17.kept ((o37 (h + 3) (by omega)).trans ((o34 (h + 3) (by omega)).trans (o26 (h + 3) (by omega))))
    have hf45 := hcp33.kept (o37 (h + 5) (by omega))
    refine g_iret hx hb hr hlk hK hM dX9_restore_74 ?_
    exact Or.inr ⟨by omega, rfl, hf38, hf43, hf44, hf39, hf45, (fun q hq => ((o37 (q) (by omega)).trans ((o34 (q) (by omega)).trans ((o26 (q) (by omega)).trans ((o18 (q) (by omega)).trans ((o10 (q) (by omega)).trans (o2 (q) (by omega))))))))⟩
  · skip
    refine lv_aload_n hx hb dX9_restore_12 rfl (lv_at hl 0 rfl) ?_
    refine g_iconst hx hb dX9_restore_13 ?_
    have hC46 := c_X9_fails l g b0 n f1 h (pu Z 0 0) 1 hf3 hrg
    refine g_callVi (ci := 11) (C := RX9) (T := TX9) (N := 24) (As := [.int (zI 1)]) (rest := []) ⟨hx, hb, hml, hown, hts⟩ hK hM hC46 (cuV (n := 1) hts u_1412 u_1409 u_10 (by decide) u_1411 us_55 ⟨Nat.le_of_ble_eq_true rfl, Nat.le_of_ble_eq_true rfl⟩) ⟨by omega, by omega⟩ hf3 rfl rfl hl.1 rfl (Nat.le_of_ble_eq_true rfl) dX9_restore_14 ⟨Nat.zero_le _, Nat.zero_le _⟩ (fun r14 f47 H locs hM hp48 => ?_)
    obtain ⟨rfl, hm49, o50⟩ := hp48
    have ho51 : f47 h = .inr (11, [.int (zI 1), .ref (h + 1), .ref (h + 2), .ref (h + 3), .ref (h + 4), .ref (h + 5), .ref (h + 6), .ref (h + 7), .ref (h + 8), .int (zI (Z 9)), .int (zI (Z 10)), .int (zI (Z 11)), .int (zI (Z 12)), .int (zI (Z 13)), .int (zI (Z 14)), .int (zI (Z 15)), .int (zI (Z 16)), .ref (h + 9), .ref (h + 10), .ref (h + 11), .int (zI (Z 20)), .int (zI (Z 21)), .int (zI (Z 22)), .ref (h + 12)]) := hm49
    refine g_iret hx hb hr hlk hK hM dX9_restore_17 ?_
    exact Or.inl ⟨by omega, ho51, (fun q hq => ((o50 (q) (by omega)).trans (o2 (q) (by omega))))⟩
