def po_X6_readNumber (g : gE) (f : gF) (h : Nat) (T C : Nat → Int) (L cnt a : Nat) (nm : Int) : Int32 → gF → Prop := fun r f1 => r = bI (a < (sNum T L 7 a 0).1) ∧ rdAt g f1 h T C (↑L : Int) (↑cnt : Int) (↑(sNum T L 7 a 0).1 : Int) ((sNum T L 7 a 0).2) ∧ ∀ q, (q < h ∨ h + 3 ≤ q) → f1 q = f q
set_option maxRecDepth 100000 in
set_option maxHeartbeats 1000000 in
/-- readNumber() -/
theorem c_X6_readNumber (l : Launch) (g : gE) (b0 n : Nat) (f : gF) (h : Nat) (T C : Nat → Int) (L cnt a : Nat) (nm : Int) (hE : rdAt g f h T C (↑L : Int) (↑cnt : Int) (↑a : Int) nm) (hrg : b0 ≤ h ∧ h + 3 ≤ b0 + n) (hT : txOk T) (hL : L ≤ 60) (ha : a ≤ L) : cI l yX6_readNumber cX6_readNumber 2 (some .boolean) 1 21 [.ref h] g b0 n f (po_X6_readNumber g f h T C L cnt a nm) := by
  refine gs_i (cc := cX6_readNumber) (maxL := 2) (ret := (some .boolean)) (by decide) (Nat.le_of_ble_eq_true rfl) ?_
  intro p e0 s m args below meth c ls hx hb hr hml hown hts hlk hK hM hl
  have hl : lv_has ls 2 [(0, .ref h)] := hl
  refine lv_aload_n hx hb dX6_readNumber_0 rfl (lv_at hl 0 rfl) ?_
  refine g_iconst hx hb dX6_readNumber_1 ?_
  obtain ⟨ho1, ho2, ho3⟩ := id hE
  refine g_put (ci := 8) (v := .int (zI 0)) (ty := .int) (C := RX6) (T := TX6) (N := 6) hx hb hts iU_X6 tyX6 tyX6_ok nmX6 hown hK hM ⟨by omega, by omega⟩ ho1 rfl 5 (by decide) (hts _ u_260) (fun _ h9 => h9) rfl (by decide +kernel) rfl rfl (Nat.le_of_ble_eq_true rfl) dX6_readNumber_2 (fun f4 H locs hM hf6 o5 => ?_)
  have hf6 : f4 (h) = .inr (8, [.ref (h + 1), .ref (h + 2), .int (zI (↑L : Int)), .int (zI (↑cnt : Int)), .int (zI (↑a : Int)), .int (zI 0)]) := hf6
  refine g_iconst hx hb dX6_readNumber_5 ?_
  refine lv_istore_n (lv' := [(1, .int (zI 0)), (0, .ref h)]) hx hb dX6_readNumber_6 rfl hl (by decide) rfl (fun ls hl => ?_)
  have lp7 : ∀ (k : Nat), ∀ (d : Nat) (v : Int) (fL : gF) (H : Heap) (locs : List Loc) (ls : Array Slot), (7 - d < k) → (d ≤ 7) → (a + d ≤ L) → (sNum T L (7 - d) (a + d) v = sNum T L 7 a 0) → (∀ q, (q < h ∨ h + 3 ≤ q) → fL q = f q) → gH g b0 n fL s.heap H locs → (rdAt g fL h T C (↑L : Int) (↑cnt : Int) (↑(a + d) : Int) v) → lv_has ls 2 [(0, .ref h), (1, .int (zI (↑d : Int)))] → W p l e0 { frames := 1, cells := 0, slots := 0, locals := 21 } s m args below meth c H locs 0 0 (MQ below (va_Qi (po_X6_readNumber g f h T C L cnt a nm) (gB g b0 n) (gA b0)) args s 0 0 (gA b0)) (F0 m 7 ls []) := by
    intro k
    induction k with
    | zero =>
      intro d v fL H locs ls hk hd7 had hsq hfr hM hL1 hl
      exact absurd hk (Nat.not_lt_zero _)
    | succ k ih7 =>
      intro d v fL H locs ls hk hd7 had hsq hfr hM hL1 hl
      refine lv_iload_n hx hb dX6_readNumber_7 rfl (lv_at hl 1 rfl) ?_
      refine g_bipush hx hb dX6_readNumber_8 (by decide) ?_
      refine g_icmp_ge (tgt := 59) hx hb dX6_readNumber_10 (by decide) ⟨by omega, by omega⟩ (by decide) (fun c10 => ?_) (fun c10 => ?_)
      · skip
        refine lv_iload_n hx hb dX6_readNumber_59 rfl (lv_at hl 1 rfl) ?_
        refine g_if_le (tgt := 67) hx hb dX6_readNumber_60 (by decide) ⟨by omega, by omega⟩ (fun c60 => ?_) (fun c60 => ?_)
        · skip
          refine g_iconst hx hb dX6_readNumber_67 ?_
          obtain ⟨ho7, ho8, ho9⟩ := id hL1
          have hw10 : rdAt g fL h T C (↑L : Int) (↑cnt : Int) (↑(a + d) : Int) v := ⟨ho7, ho8, ho9⟩
          refine g_zret hx hb hr hlk hK hM dX6_readNumber_68 rfl ?_
          have hs9 : sNum T L 7 a 0 = (a + d, v) := by
            rw [← hsq]
            first | (rw [show 7 - d = 0 by omega]; rfl) | (rw [show 7 - d = (6 - d) + 1 by omega]; unfold sNum; rw [if_neg (by first | assumption | (unfold dg; omega))])
          unfold po_X6_readNumber
          rw [hs9]
          exact ⟨by first | exact (bI_t (show a < a + d by omega)).symm | exact (bI_f (show ¬ a < a + d by omega)).symm, hw10, (fun q hq => (hfr (q) (by omega)))⟩
        · skip
          refine g_iconst hx hb dX6_readNumber_63 ?_
          refine lv_goto (tgt := 68) hx hb dX6_readNumber_64 (by decide) ?_
          obtain ⟨ho11, ho12, ho13⟩ := id hL1
          have hw14 : rdAt g fL h T C (↑L : Int) (↑cnt : Int) (↑(a + d) : Int) v := ⟨ho11, ho12, ho13⟩
          refine g_zret hx hb hr hlk hK hM dX6_readNumber_68 rfl ?_
          have hs9 : sNum T L 7 a 0 = (a + d, v) := by
            rw [← hsq]
            first | (rw [show 7 - d = 0 by omega]; rfl) | (rw [show 7 - d = (6 - d) + 1 by omega]; unfold sNum; rw [if_neg (by first | assumption | (unfold dg; omega))])
          unfold po_X6_readNumber
          rw [hs9]
          exact ⟨by first | exact (bI_t (show a < a + d by omega)).symm | exact (bI_f (show ¬ a < a + d by omega)).symm, hw14, (fun q hq => (hfr (q) (by omega)))⟩
      · skip
        refine lv_aload_n hx hb dX6_readNumber_13 rfl (lv_at hl 0 rfl) ?_
        refine lv_aload_n hx hb dX6_readNumber_14 rfl (lv_at hl 0 rfl) ?_
        obtain ⟨ho15, ho16, ho17⟩ := id hL1
        have hw18 : rdAt g fL h T C (↑L : Int) (↑cnt : Int) (↑(a + d) : Int) v := ⟨ho15, ho16, ho17⟩
        have hC19 := c_X6_next l g b0 n fL h T C L cnt (a + d) v hw18 hrg hT hL (by omega)
        refine g_callVi (ci := 8) (C := RX6) (T := TX6) (N := 6) (As := []) (rest := [.ref h]) ⟨hx, hb, hml, hown, hts⟩ hK hM hC19 (cuV (n := 0) hts u_322 u_319 u_9 (by decide) u_321 us_1 ⟨Nat.le_of_ble_eq_true rfl, Nat.le_of_ble_eq_true rfl⟩) ⟨by omega, by omega⟩ ho15 rfl rfl hl.1 rfl (Nat.le_of_ble_eq_true rfl) dX6_readNumber_15 ⟨Nat.zero_le _, Nat.zero_le _⟩ (fun r15 f20 H locs hM hp21 => ?_)
        obtain ⟨rfl, rfl⟩ := hp21
        have hC22 := c_X6_isDigit l g b0 n fL h (nx T L (a + d)) (by have := nx_in (L := L) (a := (a + d)) hT; exact ⟨by omega, by omega⟩)
        refine g_callVi (ci := 8) (C := RX6) (T := TX6) (N := 6) (As := [.int (zI (nx T L (a + d)))]) (rest := []) ⟨hx, hb, hml, hown, hts⟩ hK hM hC22 (cuV (n := 1) hts u_334 u_331 u_9 (by decide) u_333 us_4 ⟨Nat.le_of_ble_eq_true rfl, Nat.le_of_ble_eq_true rfl⟩) ⟨by omega, by omega⟩ ho15 rfl rfl hl.1 rfl (Nat.le_of_ble_eq_true rfl) dX6_readNumber_18 ⟨Nat.zero_le _, Nat.zero_le _⟩ (fun r18 f23 H locs hM hp24 => ?_)
        obtain ⟨rfl, rfl⟩ := hp24
        refine g_ifb_eq (tgt := 59) hx hb dX6_readNumber_21 (by decide) (fun c21 => ?_) (fun c21 => ?_)
        · skip
          refine lv_iload_n hx hb dX6_readNumber_59 rfl (lv_at hl 1 rfl) ?_
          refine g_if_le (tgt := 67) hx hb dX6_readNumber_60 (by decide) ⟨by omega, by omega⟩ (fun c60 => ?_) (fun c60 => ?_)
          · skip
            refine g_iconst hx hb dX6_readNumber_67 ?_
            have hw25 : rdAt g fL h T C (↑L : Int) (↑cnt : Int) (↑(a + d) : Int) v := ⟨ho15, ho16, ho17⟩
            refine g_zret hx hb hr hlk hK hM dX6_readNumber_68 rfl ?_
            have hs9 : sNum T L 7 a 0 = (a + d, v) := by
              rw [← hsq]
              first | (rw [show 7 - d = 0 by omega]; rfl) | (rw [show 7 - d = (6 - d) + 1 by omega]; unfold sNum; rw [if_neg (by first | assumption | (unfold dg; omega))])
            unfold po_X6_readNumber
            rw [hs9]
            exact ⟨by first | exact (bI_t (show a < a + d by omega)).symm | exact (bI_f (show ¬ a < a + d by omega)).symm, hw25, (fun q hq => (hfr (q) (by omega)))⟩
          · skip
            refine g_iconst hx hb dX6_readNumber_63 ?_
            refine lv_goto (tgt := 68) hx hb dX6_readNumber_64 (by decide) ?_
            have hw26 : rdAt g fL h T C (↑L : Int) (↑cnt : Int) (↑(a + d) : Int) v := ⟨ho15, ho16, ho17⟩
            refine g_zret hx hb hr hlk hK hM dX6_readNumber_68 rfl ?_
            have hs9 : sNum T L 7 a 0 = (a + d, v) := by
              rw [← hsq]
              first | (rw [show 7 - d = 0 by omega]; rfl) | (rw [show 7 - d = (6 - d) + 1 by omega]; unfold sNum; rw [if_neg (by first | assumption | (unfold dg; omega))])
            unfold po_X6_readNumber
            rw [hs9]
            exact ⟨by first | exact (bI_t (show a < a + d by omega)).symm | exact (bI_f (show ¬ a < a + d by omega)).symm, hw26, (fun q hq => (hfr (q) (by omega)))⟩
        · skip
          refine lv_aload_n hx hb dX6_readNumber_24 rfl (lv_at hl 0 rfl) ?_
          refine lv_aload_n hx hb dX6_readNumber_25 rfl (lv_at hl 0 rfl) ?_
          refine g_get (ci := 8) (v := .int (zI v)) (C := RX6) (T := TX6) (N := 6) hx hb hts iU_X6 hown hK hM ⟨by omega, by omega⟩ ho15 rfl 5 (by decide) (hts _ u_260) (fun _ h9 => h9) rfl dX6_readNumber_26 ?_
          refine g_bipush hx hb dX6_readNumber_29 (by decide) ?_
          refine g_imul hx hb dX6_readNumber_31 ?_
          refine lv_aload_n hx hb dX6_readNumber_32 rfl (lv_at hl 0 rfl) ?_
          have hw27 : rdAt g fL h T C (↑L : Int) (↑cnt : Int) (↑(a + d) : Int) v := ⟨ho15, ho16, ho17⟩
          have hC28 := c_X6_next l g b0 n fL h T C L cnt (a + d) v hw27 hrg hT hL (by omega)
          refine g_callVi (ci := 8) (C := RX6) (T := TX6) (N := 6) (As := []) (rest := [.int (zI (v * 10)), .ref h]) ⟨hx, hb, hml, hown, hts⟩ hK hM hC28 (cuV (n := 0) hts u_322 u_319 u_9 (by decide) u_321 us_1 ⟨Nat.le_of_ble_eq_true rfl, Nat.le_of_ble_eq_true rfl⟩) ⟨by omega, by omega⟩ ho15 rfl rfl hl.1 rfl (Nat.le_of_ble_eq_true rfl) dX6_readNumber_33 ⟨Nat.zero_le _, Nat.zero_le _⟩ (fun r33 f29 H locs hM hp30 => ?_)
          obtain ⟨rfl, rfl⟩ := hp30
          refine g_bipush hx hb dX6_readNumber_36 (by decide) ?_
          refine g_isub hx hb dX6_readNumber_38 ?_
          refine g_iadd hx hb dX6_readNumber_39 ?_
          refine g_put (ci := 8) (v := .int (zI ((v * 10) + ((nx T L (a + d)) - 48)))) (ty := .int) (C := RX6) (T := TX6) (N := 6) hx hb hts iU_X6 tyX6 tyX6_ok nmX6 hown hK hM ⟨by omega, by omega⟩ ho15 rfl 5 (by decide) (hts _ u_260) (fun _ h9 => h9) rfl (by decide +kernel) rfl rfl (Nat.le_of_ble_eq_true rfl) dX6_readNumber_40 (fun f31 H locs hM hf33 o32 => ?_)
          have hf33 : f31 (h) = .inr (8, [.ref (h + 1), .ref (h + 2), .int (zI (↑L : Int)), .int (zI (↑cnt : Int)), .int (zI (↑(a + d) : Int)), .int (zI ((v * 10) + ((nx T L (a + d)) - 48)))]) := hf33
          refine lv_iinc (v := zI ((↑d : Int) + 1)) (lv' := [(1, .int (zI ((↑d : Int) + 1))), (0, .ref h)]) hx hb dX6_readNumber_43 hl (k := 1) rfl (zI_add _ _) (by decide) rfl (fun ls hl => ?_)
          refine lv_aload_n hx hb dX6_readNumber_46 rfl (lv_at hl 1 rfl) ?_
          refine lv_dup hx hb dX6_readNumber_47 rfl ?_
          refine g_get (ci := 8) (v := .int (zI (↑(a + d) : Int))) (C := RX6) (T := TX6) (N := 6) hx hb hts iU_X6 hown hK hM ⟨by omega, by omega⟩ hf33 rfl 4 (by decide) (hts _ u_259) (fun _ h9 => h9) rfl dX6_readNumber_48 ?_
          refine g_iconst hx hb dX6_readNumber_51 ?_
          refine g_iadd hx hb dX6_readNumber_52 ?_
          refine g_put (ci := 8) (v := .int (zI ((↑(a + d) : Int) + 1))) (ty := .int) (C := RX6) (T := TX6) (N := 6) hx hb hts iU_X6 tyX6 tyX6_ok nmX6 hown hK hM ⟨by omega, by omega⟩ hf33 rfl 4 (by decide) (hts _ u_259) (fun _ h9 => h9) rfl (by decide +kernel) rfl rfl (Nat.le_of_ble_eq_true rfl) dX6_readNumber_53 (fun f34 H locs hM hf36 o35 => ?_)
          have hf36 : f34 (h) = .inr (8, [.ref (h + 1), .ref (h + 2), .int (zI (↑L : Int)), .int (zI (↑cnt : Int)), .int (zI ((↑(a + d) : Int) + 1)), .int (zI ((v * 10) + ((nx T L (a + d)) - 48)))]) := hf36
          refine lv_goto (tgt := 7) hx hb dX6_readNumber_56 (by decide) ?_
          have hdg : dg T L (a + d) := by first | assumption | (unfold dg; omega)
          have hlt9 : a + d < L := nx_lt (T := T) (L := L) (a := a + d) (by have := hdg.1; omega)
          have hf37 := ho16.kept ((o35 (h + 1) (by omega)).trans (o32 (h + 1) (by omega)))
          have hf38 := ho17.kept ((o35 (h + 2) (by omega)).trans (o32 (h + 2) (by omega)))
          have hw39 : rdAt g f34 h T C (↑L : Int) (↑cnt : Int) (↑((a + d) + 1) : Int) ((v * 10) + ((nx T L (a + d)) - 48)) := ⟨hf36, hf37, hf38⟩
          exact ih7 (d + 1) (v * 10 + (nx T L (a + d) - 48)) f34 _ _ _ (by omega) (by omega) (by omega) (by rw [← hsq, show 7 - d = (7 - (d + 1)) + 1 by omega]; exact (show sNum T L (7 - (d + 1) + 1) (a + d) v = sNum T L (7 - (d + 1)) (a + d + 1) (v * 10 + (nx T L (a + d) - 48)) from if_pos hdg).symm) (fun q hq => ((o35 (q) (by omega)).trans ((o32 (q) (by omega)).trans (hfr (q) (by omega))))) hM hw39 (lv_sub hl [1, 0] rfl)
  have hf40 := ho2.kept (o5 (h + 1) (by omega))
  have hf41 := ho3.kept (o5 (h + 2) (by omega))
  have hw42 : rdAt g f4 h T C (↑L : Int) (↑cnt : Int) (↑a : Int) 0 := ⟨hf6, hf40, hf41⟩
  exact lp7 (8) 0 0 f4 _ _ _ (by omega) (by omega) (by omega) rfl (fun q hq => (o5 (q) (by omega))) hM hw42 (lv_sub hl [1, 0] rfl)

def po_X6_readSpending (g : gE) (f : gF) (h : Nat) (T C : Nat → Int) (L cnt a : Nat) (nm : Int) : Int32 → gF → Prop := fun r f1 => r = bI ((sSp T L a).1 = true) ∧ (∃ nm1 : Int, ((sSp T L a).1 = false → rdAt g f1 h T C (↑L : Int) (↑cnt : Int) (↑(sSp T L a).2.1 : Int) nm1) ∧ ((sSp T L a).1 = true → rdAt g f1 h T (kp C cnt (sSp T L a).2.2.1 (sSp T L a).2.2.2.1 (sSp T L a).2.2.2.2.1 (sSp T L a).2.2.2.2.2) (↑L : Int) (↑(cnt + 1) : Int) (↑(sSp T L a).2.1 : Int) nm1)) ∧ ∀ q, (q < h ∨ h + 3 ≤ q) → f1 q = f q
set_option maxRecDepth 100000 in
set_option maxHeartbeats 1000000 in
/-- readSpending() -/
theorem c_X6_readSpending (l : Launch) (g : gE) (b0 n : Nat) (f : gF) (h : Nat) (T C : Nat → Int) (L cnt a : Nat) (nm : Int) (hE : rdAt g f h T C (↑L : Int) (↑cnt : Int) (↑a : Int) nm) (hrg : b0 ≤ h ∧ h + 3 ≤ b0 + n) (hT : txOk T) (hL : L ≤ 60) (ha : a ≤ L) (hcn : cnt < 30) : cI l yX6_readSpending cX6_readSpending 2 (some .boolean) 2 42 [.ref h] g b0 n f (po_X6_readSpending g f h T C L cnt a nm) := by
  refine gs_i (cc := cX6_readSpending) (maxL := 2) (ret := (some .boolean)) (by decide) (Nat.le_of_ble_eq_true rfl) ?_
  intro p e0 s m args below meth c ls hx hb hr hml hown hts hlk hK hM hl
  have hl : lv_has ls 2 [(0, .ref h)] := hl
  have hnx := nx_in (L := L) (a := a) hT
  refine lv_aload_n hx hb dX6_readSpending_0 rfl (lv_at hl 0 rfl) ?_
  obtain ⟨ho1, ho2, ho3⟩ := id hE
  have hw4 : rdAt g f h T C (↑L : Int) (↑cnt : Int) (↑a : Int) nm := ⟨ho1, ho2, ho3⟩
  have hC5 := c_X6_next l g b0 n f h T C L cnt a nm hw4 hrg hT hL (by omega)
  refine g_callVi (ci := 8) (C := RX6) (T := TX6) (N := 6) (As := []) (rest := []) ⟨hx, hb, hml, hown, hts⟩ hK hM hC5 (cuV (n := 0) hts u_322 u_319 u_9 (by decide) u_321 us_1 ⟨Nat.le_of_ble_eq_true rfl, Nat.le_of_ble_eq_true rfl⟩) ⟨by omega, by omega⟩ ho1 rfl rfl hl.1 rfl (Nat.le_of_ble_eq_true rfl) dX6_readSpending_1 ⟨Nat.zero_le _, Nat.zero_le _⟩ (fun r1 f6 H locs hM hp7 => ?_)
  obtain ⟨rfl, rfl⟩ := hp7
  refine g_bipush hx hb dX6_readSpending_4 (by decide) ?_
  refine g_isub hx hb dX6_readSpending_6 ?_
  refine lv_istore_n (lv' := [(1, .int (zI ((nx T L a) - 48))), (0, .ref h)]) hx hb dX6_readSpending_7 rfl hl (by decide) rfl (fun ls hl => ?_)
  refine lv_aload_n hx hb dX6_readSpending_8 rfl (lv_at hl 1 rfl) ?_
  have hw8 : rdAt g f h T C (↑L : Int) (↑cnt : Int) (↑a : Int) nm := ⟨ho1, ho2, ho3⟩
  have hC9 := c_X6_acceptDigit l g b0 n f h T C L cnt a nm  hw8 hrg hT hL (by omega) 
  refine g_callVi (ci := 8) (C := RX6) (T := TX6) (N := 6) (As := []) (rest := []) ⟨hx, hb, hml, hown, hts⟩ hK hM hC9 (cuV (n := 0) hts u_342 u_339 u_9 (by decide) u_341 us_6 ⟨Nat.le_of_ble_eq_true rfl, Nat.le_of_ble_eq_true rfl⟩) ⟨by omega, by omega⟩ ho1 rfl rfl hl.1 rfl (Nat.le_of_ble_eq_true rfl) dX6_readSpending_9 ⟨Nat.zero_le _, Nat.zero_le _⟩ (fun r9 f10 H locs hM hp11 => ?_)
  rcases hp11 with ⟨hq14, rfl, hn12, o13⟩ | ⟨hq14, rfl, rfl⟩
  · skip
    have hlthq14 : a < L := nx_lt (T := T) (L := L) (a := a) (by omega)
    have hw15 : rdAt g f10 h T C (↑L : Int) (↑cnt : Int) (↑(a + 1) : Int) nm := by rw [Int.natCast_add]; exact hn12
    refine g_if_eq (tgt := 50) hx hb dX6_readSpending_12 (by decide) (by decide) (fun c12 => ?_) (fun c12 => ?_)
    · exact absurd c12 (by decide)
    · skip
      refine lv_aload_n hx hb dX6_readSpending_15 rfl (lv_at hl 1 rfl) ?_
      refine g_bipush hx hb dX6_readSpending_16 (by decide) ?_
      obtain ⟨ho16, ho17, ho18⟩ := id hw15
      have hw19 : rdAt g f10 h T C (↑L : Int) (↑cnt : Int) (↑(a + 1) : Int) nm := ⟨ho16, ho17, ho18⟩
      have hC20 := c_X6_accept l g b0 n f10 h T C L cnt (a + 1) nm 58 hw19 hrg hT hL (by omega) (by decide) (by decide)
      refine g_callVi (ci := 8) (C := RX6) (T := TX6) (N := 6) (As := [.int (zI 58)]) (rest := []) ⟨hx, hb, hml, hown, hts⟩ hK hM hC20 (cuV (n := 1) hts u_346 u_343 u_9 (by decide) u_345 us_7 ⟨Nat.le_of_ble_eq_true rfl, Nat.le_of_ble_eq_true rfl⟩) ⟨by omega, by omega⟩ ho16 rfl rfl hl.1 rfl (Nat.le_of_ble_eq_true rfl) dX6_readSpending_18 ⟨Nat.zero_le _, Nat.zero_le _⟩ (fun r18 f21 H locs hM hp22 => ?_)
      rcases hp22 with ⟨hq25, rfl, hn23, o24⟩ | ⟨hq25, rfl, rfl⟩
      · skip
        have hlthq25 : (a + 1) < L := nx_lt (T := T) (L := L) (a := (a + 1)) (by omega)
        have hw26 : rdAt g f21 h T C (↑L : Int) (↑cnt : Int) (↑((a + 1) + 1) : Int) nm := by rw [Int.natCast_add]; exact hn23
        refine g_if_eq (tgt := 50) hx hb dX6_readSpending_21 (by decide) (by decide) (fun c21 => ?_) (fun c21 => ?_)
        · exact absurd c21 (by decide)
        · skip
          refine lv_aload_n hx hb dX6_readSpending_24 rfl (lv_at hl 1 rfl) ?_
          obtain ⟨ho27, ho28, ho29⟩ := id hw26
          have hw30 : rdAt g f21 h T C (↑L : Int) (↑cnt : Int) (↑((a + 1) + 1) : Int) nm := ⟨ho27, ho28, ho29⟩
          have hC31 := c_X6_readNumber l g b0 n f21 h T C L cnt ((a + 1) + 1) nm hw30 hrg hT hL (by omega)
          refine g_callVi (ci := 8) (C := RX6) (T := TX6) (N := 6) (As := []) (rest := []) ⟨hx, hb, hml, hown, hts⟩ hK hM hC31 (cuV (n := 0) hts u_330 u_327 u_9 (by decide) u_329 us_3 ⟨Nat.le_of_ble_eq_true rfl, Nat.le_of_ble_eq_true rfl⟩) ⟨by omega, by omega⟩ ho27 rfl rfl hl.1 rfl (Nat.le_of_ble_eq_true rfl) dX6_readSpending_25 ⟨Nat.zero_le _, Nat.zero_le _⟩ (fun r25 f32 H locs hM hp33 => ?_)
          obtain ⟨rfl, hn34, o35⟩ := hp33
          have h7hn34 := sNum_7 (T := T) (a := ((a + 1) + 1)) hL (by omega)
          refine g_ifb_eq (tgt := 50) hx hb dX6_readSpending_28 (by decide) (fun c28 => ?_) (fun c28 => ?_)
          · skip
            refine g_iconst hx hb dX6_readSpending_50 ?_
            obtain ⟨ho36, ho37, ho38⟩ := id hn34
            have hw39 : rdAt g f32 h T C (↑L : Int) (↑cnt : Int) (↑((sNum T L 7 ((a + 1) + 1) 0).1) : Int) ((sNum T L 7 ((a + 1) + 1) 0).2) := ⟨ho36, ho37, ho38⟩
            refine g_zret hx hb hr hlk hK hM dX6_readSpending_51 rfl ?_
            have hq9 : (sSp T L a).1 = false ∧ (sSp T L a).2.1 = ((sNum T L 7 ((a + 1) + 1) 0).1) := by
              unfold sSp
              simp only [*, dg, if_true, if_false, ↓reduceIte, decide_true, decide_false, true_and, and_self, not_true_eq_false, not_false_eq_true, decide_eq_true_eq, decide_eq_false_iff_not, and_true]
            refine ⟨by rw [hq9.1]; rfl, ⟨((sNum T L 7 ((a + 1) + 1) 0).2), fun hz => ?_, fun hz => ?_⟩, (fun q hq => ((o35 (q) (by omega)).trans ((o24 (q) (by omega)).trans (o13 (q) (by omega)))))⟩
            · rw [hq9.2]
              exact hw39
            · exact absurd (hq9.1.symm.trans hz) (by decide)
          · skip
            refine lv_aload_n hx hb dX6_readSpending_31 rfl (lv_at hl 1 rfl) ?_
            refine g_bipush hx hb dX6_readSpending_32 (by decide) ?_
            refine lv_iload_n hx hb dX6_readSpending_34 rfl (lv_at hl 0 rfl) ?_
            refine lv_aload_n hx hb dX6_readSpending_35 rfl (lv_at hl 1 rfl) ?_
            obtain ⟨ho40, ho41, ho42⟩ := id hn34
            refine g_get (ci := 8) (v := .int (zI ((sNum T L 7 ((a + 1) + 1) 0).2))) (C := RX6) (T := TX6) (N := 6) hx hb hts iU_X6 hown hK hM ⟨by omega, by omega⟩ ho40 rfl 5 (by decide) (hts _ u_260) (fun _ h9 => h9) rfl dX6_readSpending_36 ?_
            refine g_iconst hx hb dX6_readSpending_39 ?_
            have hw43 : rdAt g f32 h T C (↑L : Int) (↑cnt : Int) (↑((sNum T L 7 ((a + 1) + 1) 0).1) : Int) ((sNum T L 7 ((a + 1) + 1) 0).2) := ⟨ho40, ho41, ho42⟩
            have hC44 := c_X6_keep l g b0 n f32 h T C L cnt ((sNum T L 7 ((a + 1) + 1) 0).1) ((sNum T L 7 ((a + 1) + 1) 0).2) 10 ((nx T L a) - 48) ((sNum T L 7 ((a + 1) + 1) 0).2) 0 hw43 hrg hcn
            refine g_callVi (ci := 8) (C := RX6) (T := TX6) (N := 6) (As := [.int (zI 10), .int (zI ((nx T L a) - 48)), .int (zI ((sNum T L 7 ((a + 1) + 1) 0).2)), .int (zI 0)]) (rest := []) ⟨hx, hb, hml, hown, hts⟩ hK hM hC44 (cuV (n := 4) hts u_326 u_323 u_9 (by decide) u_325 us_2 ⟨Nat.le_of_ble_eq_true rfl, Nat.le_of_ble_eq_true rfl⟩) ⟨by omega, by omega⟩ ho40 rfl rfl hl.1 rfl (Nat.le_of_ble_eq_true rfl) dX6_readSpending_40 ⟨Nat.zero_le _, Nat.zero_le _⟩ (fun r40 f45 H locs hM hp46 => ?_)
            obtain ⟨rfl, hn47, o48⟩ := hp46
            refine g_if_eq (tgt := 50) hx hb dX6_readSpending_43 (by decide) (by decide) (fun c43 => ?_) (fun c43 => ?_)
            · exact absurd c43 (by decide)
            · skip
              refine g_iconst hx hb dX6_readSpending_46 ?_
              refine lv_goto (tgt := 51) hx hb dX6_readSpending_47 (by decide) ?_
              obtain ⟨ho49, ho50, ho51⟩ := id hn47
              have hw52 : rdAt g f45 h T (kp C cnt 10 ((nx T L a) - 48) ((sNum T L 7 ((a + 1) + 1) 0).2) 0) (↑L : Int) (↑(cnt + 1) : Int) (↑((sNum T L 7 ((a + 1) + 1) 0).1) : Int) ((sNum T L 7 ((a + 1) + 1) 0).2) := ⟨ho49, ho50, ho51⟩
              refine g_zret hx hb hr hlk hK hM dX6_readSpending_51 rfl ?_
              have hq9 : (sSp T L a).1 = true ∧ (sSp T L a).2.1 = ((sNum T L 7 ((a + 1) + 1) 0).1) ∧ kp C cnt (sSp T L a).2.2.1 (sSp T L a).2.2.2.1 (sSp T L a).2.2.2.2.1 (sSp T L a).2.2.2.2.2 = (kp C cnt 10 ((nx T L a) - 48) ((sNum T L 7 ((a + 1) + 1) 0).2) 0) := by
                unfold sSp
                simp only [*, dg, if_true, if_false, ↓reduceIte, decide_true, decide_false, true_and, and_self, not_true_eq_false, not_false_eq_true, decide_eq_true_eq, decide_eq_false_iff_not, and_true]
              refine ⟨by rw [hq9.1]; rfl, ⟨((sNum T L 7 ((a + 1) + 1) 0).2), fun hz => ?_, fun hz => ?_⟩, (fun q hq => ((o48 (q) (by omega)).trans ((o35 (q) (by omega)).trans ((o24 (q) (by omega)).trans (o13 (q) (by omega))))))⟩
              · exact absurd (hq9.1.symm.trans hz) (by decide)
              · rw [hq9.2.1, hq9.2.2]
                exact hw52
      · skip
        refine g_if_eq (tgt := 50) hx hb dX6_readSpending_21 (by decide) (by decide) (fun c21 => ?_) (fun c21 => ?_)
        · skip
          refine g_iconst hx hb dX6_readSpending_50 ?_
          obtain ⟨ho53, ho54, ho55⟩ := id hw19
          have hw56 : rdAt g f10 h T C (↑L : Int) (↑cnt : Int) (↑(a + 1) : Int) nm := ⟨ho53, ho54, ho55⟩
          refine g_zret hx hb hr hlk hK hM dX6_readSpending_51 rfl ?_
          have hq9 : (sSp T L a).1 = false ∧ (sSp T L a).2.1 = (a + 1) := by
            unfold sSp
            simp only [*, dg, if_true, if_false, ↓reduceIte, decide_true, decide_false, true_and, and_self, not_true_eq_false, not_false_eq_true, decide_eq_true_eq, decide_eq_false_iff_not, and_true]
          refine ⟨by rw [hq9.1]; rfl, ⟨nm, fun hz => ?_, fun hz => ?_⟩, (fun q hq => (o13 (q) (by omega)))⟩
          · rw [hq9.2]
            exact hw56
          · exact absurd (hq9.1.symm.trans hz) (by decide)
        · exact absurd c21 (by decide)
  · skip
    refine g_if_eq (tgt := 50) hx hb dX6_readSpending_12 (by decide) (by decide) (fun c12 => ?_) (fun c12 => ?_)
    · skip
      refine g_iconst hx hb dX6_readSpending_50 ?_
      obtain ⟨ho57, ho58, ho59⟩ := id hw8
      have hw60 : rdAt g f h T C (↑L : Int) (↑cnt : Int) (↑a : Int) nm := ⟨ho57, ho58, ho59⟩
      refine g_zret hx hb hr hlk hK hM dX6_readSpending_51 rfl ?_
      have hq9 : (sSp T L a).1 = false ∧ (sSp T L a).2.1 = a := by
        unfold sSp
        simp only [*, dg, if_true, if_false, ↓reduceIte, decide_true, decide_false, true_and, and_self, not_true_eq_false, not_false_eq_true, decide_eq_true_eq, decide_eq_false_iff_not, and_true]
      refine ⟨by rw [hq9.1]; rfl, ⟨nm, fun hz => ?_, fun hz => ?_⟩, (fun q hq => rfl)⟩
      · rw [hq9.2]
        exact hw60
      · exact absurd (hq9.1.symm.trans hz) (by decide)
    · exact absurd c12 (by decide)

def po_X6_readMove (g : gE) (f : gF) (h : Nat) (T C : Nat → Int) (L cnt a : Nat) (nm : Int) : Int32 → gF → Prop := fun r f1 => r = bI ((sMo T L a).1 = true) ∧ (∃ nm1 : Int, ((sMo T L a).1 = false → rdAt g f1 h T C (↑L : Int) (↑cnt : Int) (↑(sMo T L a).2.1 : Int) nm1) ∧ ((sMo T L a).1 = true → rdAt g f1 h T (kp C cnt (sMo T L a).2.2.1 (sMo T L a).2.2.2.1 (sMo T L a).2.2.2.2.1 (sMo T L a).2.2.2.2.2) (↑L : Int) (↑(cnt + 1) : Int) (↑(sMo T L a).2.1 : Int) nm1)) ∧ ∀ q, (q < h ∨ h + 3 ≤ q) → f1 q = f q
set_option maxRecDepth 100000 in
set_option maxHeartbeats 1000000 in
/-- readMove() -/
theorem c_X6_readMove (l : Launch) (g : gE) (b0 n : Nat) (f : gF) (h : Nat) (T C : Nat → Int) (L cnt a : Nat) (nm : Int) (hE : rdAt g f h T C (↑L : Int) (↑cnt : Int) (↑a : Int) nm) (hrg : b0 ≤ h ∧ h + 3 ≤ b0 + n) (hT : txOk T) (hL : L ≤ 60) (ha : a ≤ L) (hcn : cnt < 30) : cI l yX6_readMove cX6_readMove 3 (some .boolean) 3 61 [.ref h] g b0 n f (po_X6_readMove g f h T C L cnt a nm) := by
  refine gs_i (cc := cX6_readMove) (maxL := 3) (ret := (some .boolean)) (by decide) (Nat.le_of_ble_eq_true rfl) ?_
  intro p e0 s m args below meth c ls hx hb hr hml hown hts hlk hK hM hl
  have hl : lv_has ls 3 [(0, .ref h)] := hl
  have hnx := nx_in (L := L) (a := a) hT
  refine lv_aload_n hx hb dX6_readMove_0 rfl (lv_at hl 0 rfl) ?_
  obtain ⟨ho1, ho2, ho3⟩ := id hE
  have hw4 : rdAt g f h T C (↑L : Int) (↑cnt : Int) (↑a : Int) nm := ⟨ho1, ho2, ho3⟩
  have hC5 := c_X6_next l g b0 n f h T C L cnt a nm hw4 hrg hT hL (by omega)
  refine g_callVi (ci := 8) (C := RX6) (T := TX6) (N := 6) (As := []) (rest := []) ⟨hx, hb, hml, hown, hts⟩ hK hM hC5 (cuV (n := 0) hts u_322 u_319 u_9 (by decide) u_321 us_1 ⟨Nat.le_of_ble_eq_true rfl, Nat.le_of_ble_eq_true rfl⟩) ⟨by omega, by omega⟩ ho1 rfl rfl hl.1 rfl (Nat.le_of_ble_eq_true rfl) dX6_readMove_1 ⟨Nat.zero_le _, Nat.zero_le _⟩ (fun r1 f6 H locs hM hp7 => ?_)
  obtain ⟨rfl, rfl⟩ := hp7
  refine g_bipush hx hb dX6_readMove_4 (by decide) ?_
  refine g_icmp_ne (tgt := 13) hx hb dX6_readMove_6 (by decide) (by have := nx_in (L := L) (a := a) hT; exact ⟨by omega, by omega⟩) (by decide) (fun c6 => ?_) (fun c6 => ?_)
  · skip
    refine lv_aload_n hx hb dX6_readMove_13 rfl (lv_at hl 0 rfl) ?_
    have hw8 : rdAt g f h T C (↑L : Int) (↑cnt : Int) (↑a : Int) nm := ⟨ho1, ho2, ho3⟩
    have hC9 := c_X6_next l g b0 n f h T C L cnt a nm hw8 hrg hT hL (by omega)
    refine g_callVi (ci := 8) (C := RX6) (T := TX6) (N := 6) (As := []) (rest := []) ⟨hx, hb, hml, hown, hts⟩ hK hM hC9 (cuV (n := 0) hts u_322 u_319 u_9 (by decide) u_321 us_1 ⟨Nat.le_of_ble_eq_true rfl, Nat.le_of_ble_eq_true rfl⟩) ⟨by omega, by omega⟩ ho1 rfl rfl hl.1 rfl (Nat.le_of_ble_eq_true rfl) dX6_readMove_14 ⟨Nat.zero_le _, Nat.zero_le _⟩ (fun r14 f10 H locs hM hp11 => ?_)
    obtain ⟨rfl, rfl⟩ := hp11
    refine g_bipush hx hb dX6_readMove_17 (by decide) ?_
    refine g_isub hx hb dX6_readMove_19 ?_
    refine lv_istore_n (lv' := [(1, .int (zI ((nx T L a) - 48))), (0, .ref h)]) hx hb dX6_readMove_20 rfl hl (by decide) rfl (fun ls hl => ?_)
    refine lv_aload_n hx hb dX6_readMove_21 rfl (lv_at hl 1 rfl) ?_
    have hw12 : rdAt g f h T C (↑L : Int) (↑cnt : Int) (↑a : Int) nm := ⟨ho1, ho2, ho3⟩
    have hC13 := c_X6_acceptPlace l g b0 n f h T C L cnt a nm  hw12 hrg hT hL (by omega) 
    refine g_callVi (ci := 8) (C := RX6) (T := TX6) (N := 6) (As := []) (rest := []) ⟨hx, hb, hml, hown, hts⟩ hK hM hC13 (cuV (n := 0) hts u_354 u_351 u_9 (by decide) u_353 us_9 ⟨Nat.le_of_ble_eq_true rfl, Nat.le_of_ble_eq_true rfl⟩) ⟨by omega, by omega⟩ ho1 rfl rfl hl.1 rfl (Nat.le_of_ble_eq_true rfl) dX6_readMove_22 ⟨Nat.zero_le _, Nat.zero_le _⟩ (fun r22 f14 H locs hM hp15 => ?_)
    rcases hp15 with ⟨hq18, rfl, hn16, o17⟩ | ⟨hq18, rfl, rfl⟩
    · skip
      have hlthq18 : a < L := nx_lt (T := T) (L := L) (a := a) (by unfold plG dg at hq18; omega)
      have hw19 : rdAt g f14 h T C (↑L : Int) (↑cnt : Int) (↑(a + 1) : Int) nm := by rw [Int.natCast_add]; exact hn16
      refine g_if_eq (tgt := 37) hx hb dX6_readMove_25 (by decide) (by decide) (fun c25 => ?_) (fun c25 => ?_)
      · exact absurd c25 (by decide)
      · skip
        refine lv_aload_n hx hb dX6_readMove_28 rfl (lv_at hl 1 rfl) ?_
        refine g_bipush hx hb dX6_readMove_29 (by decide) ?_
        obtain ⟨ho20, ho21, ho22⟩ := id hw19
        have hw23 : rdAt g f14 h T C (↑L : Int) (↑cnt : Int) (↑(a + 1) : Int) nm := ⟨ho20, ho21, ho22⟩
        have hC24 := c_X6_accept l g b0 n f14 h T C L cnt (a + 1) nm 62 hw23 hrg hT hL (by omega) (by decide) (by decide)
        refine g_callVi (ci := 8) (C := RX6) (T := TX6) (N := 6) (As := [.int (zI 62)]) (rest := []) ⟨hx, hb, hml, hown, hts⟩ hK hM hC24 (cuV (n := 1) hts u_346 u_343 u_9 (by decide) u_345 us_7 ⟨Nat.le_of_ble_eq_true rfl, Nat.le_of_ble_eq_true rfl⟩) ⟨by omega, by omega⟩ ho20 rfl rfl hl.1 rfl (Nat.le_of_ble_eq_true rfl) dX6_readMove_31 ⟨Nat.zero_le _, Nat.zero_le _⟩ (fun r31 f25 H locs hM hp26 => ?_)
        rcases hp26 with ⟨hq29, rfl, hn27, o28⟩ | ⟨hq29, rfl, rfl⟩
        · skip
          have hlthq29 : (a + 1) < L := nx_lt (T := T) (L := L) (a := (a + 1)) (by omega)
          have hw30 : rdAt g f25 h T C (↑L : Int) (↑cnt : Int) (↑((a + 1) + 1) : Int) nm := by rw [Int.natCast_add]; exact hn27
          refine g_if_ne (tgt := 39) hx hb dX6_readMove_34 (by decide) (by decide) (fun c34 => ?_) (fun c34 => ?_)
          · skip
            refine lv_aload_n hx hb dX6_readMove_39 rfl (lv_at hl 1 rfl) ?_
            obtain ⟨ho31, ho32, ho33⟩ := id hw30
            have hw34 : rdAt g f25 h T C (↑L : Int) (↑cnt : Int) (↑((a + 1) + 1) : Int) nm := ⟨ho31, ho32, ho33⟩
            have hC35 := c_X6_next l g b0 n f25 h T C L cnt ((a + 1) + 1) nm hw34 hrg hT hL (by omega)
            refine g_callVi (ci := 8) (C := RX6) (T := TX6) (N := 6) (As := []) (rest := []) ⟨hx, hb, hml, hown, hts⟩ hK hM hC35 (cuV (n := 0) hts u_322 u_319 u_9 (by decide) u_321 us_1 ⟨Nat.le_of_ble_eq_true rfl, Nat.le_of_ble_eq_true rfl⟩) ⟨by omega, by omega⟩ ho31 rfl rfl hl.1 rfl (Nat.le_of_ble_eq_true rfl) dX6_readMove_40 ⟨Nat.zero_le _, Nat.zero_le _⟩ (fun r40 f36 H locs hM hp37 => ?_)
            obtain ⟨rfl, rfl⟩ := hp37
            refine g_bipush hx hb dX6_readMove_43 (by decide) ?_
            refine g_icmp_ne (tgt := 52) hx hb dX6_readMove_45 (by decide) (by have := nx_in (L := L) (a := ((a + 1) + 1)) hT; exact ⟨by omega, by omega⟩) (by decide) (fun c45 => ?_) (fun c45 => ?_)
            · skip
              refine lv_aload_n hx hb dX6_readMove_52 rfl (lv_at hl 1 rfl) ?_
              have hw38 : rdAt g f25 h T C (↑L : Int) (↑cnt : Int) (↑((a + 1) + 1) : Int) nm := ⟨ho31, ho32, ho33⟩
              have hC39 := c_X6_next l g b0 n f25 h T C L cnt ((a + 1) + 1) nm hw38 hrg hT hL (by omega)
              refine g_callVi (ci := 8) (C := RX6) (T := TX6) (N := 6) (As := []) (rest := []) ⟨hx, hb, hml, hown, hts⟩ hK hM hC39 (cuV (n := 0) hts u_322 u_319 u_9 (by decide) u_321 us_1 ⟨Nat.le_of_ble_eq_true rfl, Nat.le_of_ble_eq_true rfl⟩) ⟨by omega, by omega⟩ ho31 rfl rfl hl.1 rfl (Nat.le_of_ble_eq_true rfl) dX6_readMove_53 ⟨Nat.zero_le _, Nat.zero_le _⟩ (fun r53 f40 H locs hM hp41 => ?_)
              obtain ⟨rfl, rfl⟩ := hp41
              refine g_bipush hx hb dX6_readMove_56 (by decide) ?_
              refine g_isub hx hb dX6_readMove_58 ?_
              refine lv_istore_n (lv' := [(2, .int (zI ((nx T L ((a + 1) + 1)) - 48))), (1, .int (zI ((nx T L a) - 48))), (0, .ref h)]) hx hb dX6_readMove_59 rfl hl (by decide) rfl (fun ls hl => ?_)
              refine lv_aload_n hx hb dX6_readMove_60 rfl (lv_at hl 2 rfl) ?_
              have hw42 : rdAt g f25 h T C (↑L : Int) (↑cnt : Int) (↑((a + 1) + 1) : Int) nm := ⟨ho31, ho32, ho33⟩
              have hC43 := c_X6_acceptPlace l g b0 n f25 h T C L cnt ((a + 1) + 1) nm  hw42 hrg hT hL (by omega) 
              refine g_callVi (ci := 8) (C := RX6) (T := TX6) (N := 6) (As := []) (rest := []) ⟨hx, hb, hml, hown, hts⟩ hK hM hC43 (cuV (n := 0) hts u_354 u_351 u_9 (by decide) u_353 us_9 ⟨Nat.le_of_ble_eq_true rfl, Nat.le_of_ble_eq_true rfl⟩) ⟨by omega, by omega⟩ ho31 rfl rfl hl.1 rfl (Nat.le_of_ble_eq_true rfl) dX6_readMove_61 ⟨Nat.zero_le _, Nat.zero_le _⟩ (fun r61 f44 H locs hM hp45 => ?_)
              rcases hp45 with ⟨hq48, rfl, hn46, o47⟩ | ⟨hq48, rfl, rfl⟩
              · skip
                have hlthq48 : ((a + 1) + 1) < L := nx_lt (T := T) (L := L) (a := ((a + 1) + 1)) (by unfold plG dg at hq48; omega)
                have hw49 : rdAt g f44 h T C (↑L : Int) (↑cnt : Int) (↑(((a + 1) + 1) + 1) : Int) nm := by rw [Int.natCast_add]; exact hn46
                refine g_if_eq (tgt := 102) hx hb dX6_readMove_64 (by decide) (by decide) (fun c64 => ?_) (fun c64 => ?_)
                · exact absurd c64 (by decide)
                · skip
                  refine lv_aload_n hx hb dX6_readMove_67 rfl (lv_at hl 2 rfl) ?_
                  refine g_bipush hx hb dX6_readMove_68 (by decide) ?_
                  obtain ⟨ho50, ho51, ho52⟩ := id hw49
                  have hw53 : rdAt g f44 h T C (↑L : Int) (↑cnt : Int) (↑(((a + 1) + 1) + 1) : Int) nm := ⟨ho50, ho51, ho52⟩
                  have hC54 := c_X6_accept l g b0 n f44 h T C L cnt (((a + 1) + 1) + 1) nm 58 hw53 hrg hT hL (by omega) (by decide) (by decide)
                  refine g_callVi (ci := 8) (C := RX6) (T := TX6) (N := 6) (As := [.int (zI 58)]) (rest := []) ⟨hx, hb, hml, hown, hts⟩ hK hM hC54 (cuV (n := 1) hts u_346 u_343 u_9 (by decide) u_345 us_7 ⟨Nat.le_of_ble_eq_true rfl, Nat.le_of_ble_eq_true rfl⟩) ⟨by omega, by omega⟩ ho50 rfl rfl hl.1 rfl (Nat.le_of_ble_eq_true rfl) dX6_readMove_70 ⟨Nat.zero_le _, Nat.zero_le _⟩ (fun r70 f55 H locs hM hp56 => ?_)
                  rcases hp56 with ⟨hq59, rfl, hn57, o58⟩ | ⟨hq59, rfl, rfl⟩
                  · skip
                    have hlthq59 : (((a + 1) + 1) + 1) < L := nx_lt (T := T) (L := L) (a := (((a + 1) + 1) + 1)) (by omega)
                    have hw60 : rdAt g f55 h T C (↑L : Int) (↑cnt : Int) (↑((((a + 1) + 1) + 1) + 1) : Int) nm := by rw [Int.natCast_add]; exact hn57
                    refine g_if_eq (tgt := 102) hx hb dX6_readMove_73 (by decide) (by decide) (fun c73 => ?_) (fun c73 => ?_)
                    · exact absurd c73 (by decide)
                    · skip
                      refine lv_aload_n hx hb dX6_readMove_76 rfl (lv_at hl 2 rfl) ?_
                      obtain ⟨ho61, ho62, ho63⟩ := id hw60
                      have hw64 : rdAt g f55 h T C (↑L : Int) (↑cnt : Int) (↑((((a + 1) + 1) + 1) + 1) : Int) nm := ⟨ho61, ho62, ho63⟩
                      have hC65 := c_X6_readNumber l g b0 n f55 h T C L cnt ((((a + 1) + 1) + 1) + 1) nm hw64 hrg hT hL (by omega)
                      refine g_callVi (ci := 8) (C := RX6) (T := TX6) (N := 6) (As := []) (rest := []) ⟨hx, hb, hml, hown, hts⟩ hK hM hC65 (cuV (n := 0) hts u_330 u_327 u_9 (by decide) u_329 us_3 ⟨Nat.le_of_ble_eq_true rfl, Nat.le_of_ble_eq_true rfl⟩) ⟨by omega, by omega⟩ ho61 rfl rfl hl.1 rfl (Nat.le_of_ble_eq_true rfl) dX6_readMove_77 ⟨Nat.zero_le _, Nat.zero_le _⟩ (fun r77 f66 H locs hM hp67 => ?_)
                      obtain ⟨rfl, hn68, o69⟩ := hp67
                      have h7hn68 := sNum_7 (T := T) (a := ((((a + 1) + 1) + 1) + 1)) hL (by omega)
                      refine g_ifb_eq (tgt := 102) hx hb dX6_readMove_80 (by decide) (fun c80 => ?_) (fun c80 => ?_)
                      · skip
                        refine g_iconst hx hb dX6_readMove_102 ?_
                        obtain ⟨ho70, ho71, ho72⟩ := id hn68
                        have hw73 : rdAt g f66 h T C (↑L : Int) (↑cnt : Int) (↑((sNum T L 7 ((((a + 1) + 1) + 1) + 1) 0).1) : Int) ((sNum T L 7 ((((a + 1) + 1) + 1) + 1) 0).2) := ⟨ho70, ho71, ho72⟩
                        refine g_zret hx hb hr hlk hK hM dX6_readMove_103 rfl ?_
                        have hq9 : (sMo T L a).1 = false ∧ (sMo T L a).2.1 = ((sNum T L 7 ((((a + 1) + 1) + 1) + 1) 0).1) := by
                          unfold sMo plV
                          simp only [*, dg, if_true, if_false, ↓reduceIte, decide_true, decide_false, true_and, and_self, not_true_eq_false, not_false_eq_true, decide_eq_true_eq, decide_eq_false_iff_not, and_true]
                        refine ⟨by rw [hq9.1]; rfl, ⟨((sNum T L 7 ((((a + 1) + 1) + 1) + 1) 0).2), fun hz => ?_, fun hz => ?_⟩, (fun q hq => ((o69 (q) (by omega)).trans ((o58 (q) (by omega)).trans ((o47 (q) (by omega)).trans ((o28 (q) (by omega)).trans (o17 (q) (by omega)))))))⟩
                        · rw [hq9.2]
                          exact hw73
                        · exact absurd (hq9.1.symm.trans hz) (by decide)
                      · skip
                        refine lv_aload_n hx hb dX6_readMove_83 rfl (lv_at hl 2 rfl) ?_
                        refine g_bipush hx hb dX6_readMove_84 (by decide) ?_
                        refine lv_iload_n hx hb dX6_readMove_86 rfl (lv_at hl 1 rfl) ?_
                        refine lv_iload_n hx hb dX6_readMove_87 rfl (lv_at hl 0 rfl) ?_
                        refine lv_aload_n hx hb dX6_readMove_88 rfl (lv_at hl 2 rfl) ?_
                        obtain ⟨ho74, ho75, ho76⟩ := id hn68
                        refine g_get (ci := 8) (v := .int (zI ((sNum T L 7 ((((a + 1) + 1) + 1) + 1) 0).2))) (C := RX6) (T := TX6) (N := 6) hx hb hts iU_X6 hown hK hM ⟨by omega, by omega⟩ ho74 rfl 5 (by decide) (hts _ u_260) (fun _ h9 => h9) rfl dX6_readMove_89 ?_
                        have hw77 : rdAt g f66 h T C (↑L : Int) (↑cnt : Int) (↑((sNum T L 7 ((((a + 1) + 1) + 1) + 1) 0).1) : Int) ((sNum T L 7 ((((a + 1) + 1) + 1) + 1) 0).2) := ⟨ho74, ho75, ho76⟩
                        have hC78 := c_X6_keep l g b0 n f66 h T C L cnt ((sNum T L 7 ((((a + 1) + 1) + 1) + 1) 0).1) ((sNum T L 7 ((((a + 1) + 1) + 1) + 1) 0).2) 11 ((nx T L a) - 48) ((nx T L ((a + 1) + 1)) - 48) ((sNum T L 7 ((((a + 1) + 1) + 1) + 1) 0).2) hw77 hrg hcn
                        refine g_callVi (ci := 8) (C := RX6) (T := TX6) (N := 6) (As := [.int (zI 11), .int (zI ((nx T L a) - 48)), .int (zI ((nx T L ((a + 1) + 1)) - 48)), .int (zI ((sNum T L 7 ((((a + 1) + 1) + 1) + 1) 0).2))]) (rest := []) ⟨hx, hb, hml, hown, hts⟩ hK hM hC78 (cuV (n := 4) hts u_326 u_323 u_9 (by decide) u_325 us_2 ⟨Nat.le_of_ble_eq_true rfl, Nat.le_of_ble_eq_true rfl⟩) ⟨by omega, by omega⟩ ho74 rfl rfl hl.1 rfl (Nat.le_of_ble_eq_true rfl) dX6_readMove_92 ⟨Nat.zero_le _, Nat.zero_le _⟩ (fun r92 f79 H locs hM hp80 => ?_)
                        obtain ⟨rfl, hn81, o82⟩ := hp80
                        refine g_if_eq (tgt := 102) hx hb dX6_readMove_95 (by decide) (by decide) (fun c95 => ?_) (fun c95 => ?_)
                        · exact absurd c95 (by decide)
                        · skip
                          refine g_iconst hx hb dX6_readMove_98 ?_
                          refine lv_goto (tgt := 103) hx hb dX6_readMove_99 (by decide) ?_
                          obtain ⟨ho83, ho84, ho85⟩ := id hn81
                          have hw86 : rdAt g f79 h T (kp C cnt 11 ((nx T L a) - 48) ((nx T L ((a + 1) + 1)) - 48) ((sNum T L 7 ((((a + 1) + 1) + 1) + 1) 0).2)) (↑L : Int) (↑(cnt + 1) : Int) (↑((sNum T L 7 ((((a + 1) + 1) + 1) + 1) 0).1) : Int) ((sNum T L 7 ((((a + 1) + 1) + 1) + 1) 0).2) := ⟨ho83, ho84, ho85⟩
                          refine g_zret hx hb hr hlk hK hM dX6_readMove_103 rfl ?_
                          have hq9 : (sMo T L a).1 = true ∧ (sMo T L a).2.1 = ((sNum T L 7 ((((a + 1) + 1) + 1) + 1) 0).1) ∧ kp C cnt (sMo T L a).2.2.1 (sMo T L a).2.2.2.1 (sMo T L a).2.2.2.2.1 (sMo T L a).2.2.2.2.2 = (kp C cnt 11 ((nx T L a) - 48) ((nx T L ((a + 1) + 1)) - 48) ((sNum T L 7 ((((a + 1) + 1) + 1) + 1) 0).2)) := by
                            unfold sMo plV
                            simp only [*, dg, if_true, if_false, ↓reduceIte, decide_true, decide_false, true_and, and_self, not_true_eq_false, not_false_eq_true, decide_eq_true_eq, decide_eq_false_iff_not, and_true]
                          refine ⟨by rw [hq9.1]; rfl, ⟨((sNum T L 7 ((((a + 1) + 1) + 1) + 1) 0).2), fun hz => ?_, fun hz => ?_⟩, (fun q hq => ((o82 (q) (by omega)).trans ((o69 (q) (by omega)).trans ((o58 (q) (by omega)).trans ((o47 (q) (by omega)).trans ((o28 (q) (by omega)).trans (o17 (q) (by omega))))))))⟩
                          · exact absurd (hq9.1.symm.trans hz) (by decide)
                          · rw [hq9.2.1, hq9.2.2]
                            exact hw86
                  · skip
                    refine g_if_eq (tgt := 102) hx hb dX6_readMove_73 (by decide) (by decide) (fun c73 => ?_) (fun c73 => ?_)
                    · skip
                      refine g_iconst hx hb dX6_readMove_102 ?_
                      obtain ⟨ho87, ho88, ho89⟩ := id hw53
                      have hw90 : rdAt g f44 h T C (↑L : Int) (↑cnt : Int) (↑(((a + 1) + 1) + 1) : Int) nm := ⟨ho87, ho88, ho89⟩
                      refine g_zret hx hb hr hlk hK hM dX6_readMove_103 rfl ?_
                      have hq9 : (sMo T L a).1 = false ∧ (sMo T L a).2.1 = (((a + 1) + 1) + 1) := by
                        unfold sMo plV
                        simp only [*, dg, if_true, if_false, ↓reduceIte, decide_true, decide_false, true_and, and_self, not_true_eq_false, not_false_eq_true, decide_eq_true_eq, decide_eq_false_iff_not, and_true]
                      refine ⟨by rw [hq9.1]; rfl, ⟨nm, fun hz => ?_, fun hz => ?_⟩, (fun q hq => ((o47 (q) (by omega)).trans ((o28 (q) (by omega)).trans (o17 (q) (by omega)))))⟩
                      · rw [hq9.2]
                        exact hw90
                      · exact absurd (hq9.1.symm.trans hz) (by decide)
                    · exact absurd c73 (by decide)
              · skip
                refine g_if_eq (tgt := 102) hx hb dX6_readMove_64 (by decide) (by decide) (fun c64 => ?_) (fun c64 => ?_)
                · skip
                  refine g_iconst hx hb dX6_readMove_102 ?_
                  obtain ⟨ho91, ho92, ho93⟩ := id hw42
                  have hw94 : rdAt g f25 h T C (↑L : Int) (↑cnt : Int) (↑((a + 1) + 1) : Int) nm := ⟨ho91, ho92, ho93⟩
                  refine g_zret hx hb hr hlk hK hM dX6_readMove_103 rfl ?_
                  have hq9 : (sMo T L a).1 = false ∧ (sMo T L a).2.1 = ((a + 1) + 1) := by
                    unfold sMo plV
                    simp only [*, dg, if_true, if_false, ↓reduceIte, decide_true, decide_false, true_and, and_self, not_true_eq_false, not_false_eq_true, decide_eq_true_eq, decide_eq_false_iff_not, and_true]
                  refine ⟨by rw [hq9.1]; rfl, ⟨nm, fun hz => ?_, fun hz => ?_⟩, (fun q hq => ((o28 (q) (by omega)).trans (o17 (q) (by omega))))⟩
                  · rw [hq9.2]
                    exact hw94
                  · exact absurd (hq9.1.symm.trans hz) (by decide)
                · exact absurd c64 (by decide)
            · skip
              refine g_iconst hx hb dX6_readMove_48 ?_
              refine lv_goto (tgt := 59) hx hb dX6_readMove_49 (by decide) ?_
              refine lv_istore_n (lv' := [(2, .int (zI (-1))), (1, .int (zI ((nx T L a) - 48))), (0, .ref h)]) hx hb dX6_readMove_59 rfl hl (by decide) rfl (fun ls hl => ?_)
              refine lv_aload_n hx hb dX6_readMove_60 rfl (lv_at hl 2 rfl) ?_
              have hw95 : rdAt g f25 h T C (↑L : Int) (↑cnt : Int) (↑((a + 1) + 1) : Int) nm := ⟨ho31, ho32, ho33⟩
              have hC96 := c_X6_acceptPlace l g b0 n f25 h T C L cnt ((a + 1) + 1) nm  hw95 hrg hT hL (by omega) 
              refine g_callVi (ci := 8) (C := RX6) (T := TX6) (N := 6) (As := []) (rest := []) ⟨hx, hb, hml, hown, hts⟩ hK hM hC96 (cuV (n := 0) hts u_354 u_351 u_9 (by decide) u_353 us_9 ⟨Nat.le_of_ble_eq_true rfl, Nat.le_of_ble_eq_true rfl⟩) ⟨by omega, by omega⟩ ho31 rfl rfl hl.1 rfl (Nat.le_of_ble_eq_true rfl) dX6_readMove_61 ⟨Nat.zero_le _, Nat.zero_le _⟩ (fun r61 f97 H locs hM hp98 => ?_)
              rcases hp98 with ⟨hq101, rfl, hn99, o100⟩ | ⟨hq101, rfl, rfl⟩
              · skip
                have hlthq101 : ((a + 1) + 1) < L := nx_lt (T := T) (L := L) (a := ((a + 1) + 1)) (by unfold plG dg at hq101; omega)
                have hw102 : rdAt g f97 h T C (↑L : Int) (↑cnt : Int) (↑(((a + 1) + 1) + 1) : Int) nm := by rw [Int.natCast_add]; exact hn99
                refine g_if_eq (tgt := 102) hx hb dX6_readMove_64 (by decide) (by decide) (fun c64 => ?_) (fun c64 => ?_)
                · exact absurd c64 (by decide)
                · skip
                  refine lv_aload_n hx hb dX6_readMove_67 rfl (lv_at hl 2 rfl) ?_
                  refine g_bipush hx hb dX6_readMove_68 (by decide) ?_
                  obtain ⟨ho103, ho104, ho105⟩ := id hw102
                  have hw106 : rdAt g f97 h T C (↑L : Int) (↑cnt : Int) (↑(((a + 1) + 1) + 1) : Int) nm := ⟨ho103, ho104, ho105⟩
                  have hC107 := c_X6_accept l g b0 n f97 h T C L cnt (((a + 1) + 1) + 1) nm 58 hw106 hrg hT hL (by omega) (by decide) (by decide)
                  refine g_callVi (ci := 8) (C := RX6) (T := TX6) (N := 6) (As := [.int (zI 58)]) (rest := []) ⟨hx, hb, hml, hown, hts⟩ hK hM hC107 (cuV (n := 1) hts u_346 u_343 u_9 (by decide) u_345 us_7 ⟨Nat.le_of_ble_eq_true rfl, Nat.le_of_ble_eq_true rfl⟩) ⟨by omega, by omega⟩ ho103 rfl rfl hl.1 rfl (Nat.le_of_ble_eq_true rfl) dX6_readMove_70 ⟨Nat.zero_le _, Nat.zero_le _⟩ (fun r70 f108 H locs hM hp109 => ?_)
                  rcases hp109 with ⟨hq112, rfl, hn110, o111⟩ | ⟨hq112, rfl, rfl⟩
                  · skip
                    have hlthq112 : (((a + 1) + 1) + 1) < L := nx_lt (T := T) (L := L) (a := (((a + 1) + 1) + 1)) (by omega)
                    have hw113 : rdAt g f108 h T C (↑L : Int) (↑cnt : Int) (↑((((a + 1) + 1) + 1) + 1) : Int) nm := by rw [Int.natCast_add]; exact hn110
                    refine g_if_eq (tgt := 102) hx hb dX6_readMove_73 (by decide) (by decide) (fun c73 => ?_) (fun c73 => ?_)
                    · exact absurd c73 (by decide)
                    · skip
                      refine lv_aload_n hx hb dX6_readMove_76 rfl (lv_at hl 2 rfl) ?_
                      obtain ⟨ho114, ho115, ho116⟩ := id hw113
                      have hw117 : rdAt g f108 h T C (↑L : Int) (↑cnt : Int) (↑((((a + 1) + 1) + 1) + 1) : Int) nm := ⟨ho114, ho115, ho116⟩
                      have hC118 := c_X6_readNumber l g b0 n f108 h T C L cnt ((((a + 1) + 1) + 1) + 1) nm hw117 hrg hT hL (by omega)
                      refine g_callVi (ci := 8) (C := RX6) (T := TX6) (N := 6) (As := []) (rest := []) ⟨hx, hb, hml, hown, hts⟩ hK hM hC118 (cuV (n := 0) hts u_330 u_327 u_9 (by decide) u_329 us_3 ⟨Nat.le_of_ble_eq_true rfl, Nat.le_of_ble_eq_true rfl⟩) ⟨by omega, by omega⟩ ho114 rfl rfl hl.1 rfl (Nat.le_of_ble_eq_true rfl) dX6_readMove_77 ⟨Nat.zero_le _, Nat.zero_le _⟩ (fun r77 f119 H locs hM hp120 => ?_)
                      obtain ⟨rfl, hn121, o122⟩ := hp120
                      have h7hn121 := sNum_7 (T := T) (a := ((((a + 1) + 1) + 1) + 1)) hL (by omega)
                      refine g_ifb_eq (tgt := 102) hx hb dX6_readMove_80 (by decide) (fun c80 => ?_) (fun c80 => ?_)
                      · skip
                        refine g_iconst hx hb dX6_readMove_102 ?_
                        obtain ⟨ho123, ho124, ho125⟩ := id hn121
                        have hw126 : rdAt g f119 h T C (↑L : Int) (↑cnt : Int) (↑((sNum T L 7 ((((a + 1) + 1) + 1) + 1) 0).1) : Int) ((sNum T L 7 ((((a + 1) + 1) + 1) + 1) 0).2) := ⟨ho123, ho124, ho125⟩
                        refine g_zret hx hb hr hlk hK hM dX6_readMove_103 rfl ?_
                        have hq9 : (sMo T L a).1 = false ∧ (sMo T L a).2.1 = ((sNum T L 7 ((((a + 1) + 1) + 1) + 1) 0).1) := by
                          unfold sMo plV
                          simp only [*, dg, if_true, if_false, ↓reduceIte, decide_true, decide_false, true_and, and_self, not_true_eq_false, not_false_eq_true, decide_eq_true_eq, decide_eq_false_iff_not, and_true]
                        refine ⟨by rw [hq9.1]; rfl, ⟨((sNum T L 7 ((((a + 1) + 1) + 1) + 1) 0).2), fun hz => ?_, fun hz => ?_⟩, (fun q hq => ((o122 (q) (by omega)).trans ((o111 (q) (by omega)).trans ((o100 (q) (by omega)).trans ((o28 (q) (by omega)).trans (o17 (q) (by omega)))))))⟩
                        · rw [hq9.2]
                          exact hw126
                        · exact absurd (hq9.1.symm.trans hz) (by decide)
                      · skip
                        refine lv_aload_n hx hb dX6_readMove_83 rfl (lv_at hl 2 rfl) ?_
                        refine g_bipush hx hb dX6_readMove_84 (by decide) ?_
                        refine lv_iload_n hx hb dX6_readMove_86 rfl (lv_at hl 1 rfl) ?_
                        refine lv_iload_n hx hb dX6_readMove_87 rfl (lv_at hl 0 rfl) ?_
                        refine lv_aload_n hx hb dX6_readMove_88 rfl (lv_at hl 2 rfl) ?_
                        obtain ⟨ho127, ho128, ho129⟩ := id hn121
                        refine g_get (ci := 8) (v := .int (zI ((sNum T L 7 ((((a + 1) + 1) + 1) + 1) 0).2))) (C := RX6) (T := TX6) (N := 6) hx hb hts iU_X6 hown hK hM ⟨by omega, by omega⟩ ho127 rfl 5 (by decide) (hts _ u_260) (fun _ h9 => h9) rfl dX6_readMove_89 ?_
                        have hw130 : rdAt g f119 h T C (↑L : Int) (↑cnt : Int) (↑((sNum T L 7 ((((a + 1) + 1) + 1) + 1) 0).1) : Int) ((sNum T L 7 ((((a + 1) + 1) + 1) + 1) 0).2) := ⟨ho127, ho128, ho129⟩
                        have hC131 := c_X6_keep l g b0 n f119 h T C L cnt ((sNum T L 7 ((((a + 1) + 1) + 1) + 1) 0).1) ((sNum T L 7 ((((a + 1) + 1) + 1) + 1) 0).2) 11 ((nx T L a) - 48) (-1) ((sNum T L 7 ((((a + 1) + 1) + 1) + 1) 0).2) hw130 hrg hcn
                        refine g_callVi (ci := 8) (C := RX6) (T := TX6) (N := 6) (As := [.int (zI 11), .int (zI ((nx T L a) - 48)), .int (zI (-1)), .int (zI ((sNum T L 7 ((((a + 1) + 1) + 1) + 1) 0).2))]) (rest := []) ⟨hx, hb, hml, hown, hts⟩ hK hM hC131 (cuV (n := 4) hts u_326 u_323 u_9 (by decide) u_325 us_2 ⟨Nat.le_of_ble_eq_true rfl, Nat.le_of_ble_eq_true rfl⟩) ⟨by omega, by omega⟩ ho127 rfl rfl hl.1 rfl (Nat.le_of_ble_eq_true rfl) dX6_readMove_92 ⟨Nat.zero_le _, Nat.zero_le _⟩ (fun r92 f132 H locs hM hp133 => ?_)
                        obtain ⟨rfl, hn134, o135⟩ := hp133
                        refine g_if_eq (tgt := 102) hx hb dX6_readMove_95 (by decide) (by decide) (fun c95 => ?_) (fun c95 => ?_)
                        · exact absurd c95 (by decide)
                        · skip
                          refine g_iconst hx hb dX6_readMove_98 ?_
                          refine lv_goto (tgt := 103) hx hb dX6_readMove_99 (by decide) ?_
                          obtain ⟨ho136, ho137, ho138⟩ := id hn134
                          have hw139 : rdAt g f132 h T (kp C cnt 11 ((nx T L a) - 48) (-1) ((sNum T L 7 ((((a + 1) + 1) + 1) + 1) 0).2)) (↑L : Int) (↑(cnt + 1) : Int) (↑((sNum T L 7 ((((a + 1) + 1) + 1) + 1) 0).1) : Int) ((sNum T L 7 ((((a + 1) + 1) + 1) + 1) 0).2) := ⟨ho136, ho137, ho138⟩
                          refine g_zret hx hb hr hlk hK hM dX6_readMove_103 rfl ?_
                          have hq9 : (sMo T L a).1 = true ∧ (sMo T L a).2.1 = ((sNum T L 7 ((((a + 1) + 1) + 1) + 1) 0).1) ∧ kp C cnt (sMo T L a).2.2.1 (sMo T L a).2.2.2.1 (sMo T L a).2.2.2.2.1 (sMo T L a).2.2.2.2.2 = (kp C cnt 11 ((nx T L a) - 48) (-1) ((sNum T L 7 ((((a + 1) + 1) + 1) + 1) 0).2)) := by
                            unfold sMo plV
                            simp only [*, dg, if_true, if_false, ↓reduceIte, decide_true, decide_false, true_and, and_self, not_true_eq_false, not_false_eq_true, decide_eq_true_eq, decide_eq_false_iff_not, and_true]
                          refine ⟨by rw [hq9.1]; rfl, ⟨((sNum T L 7 ((((a + 1) + 1) + 1) + 1) 0).2), fun hz => ?_, fun hz => ?_⟩, (fun q hq => ((o135 (q) (by omega)).trans ((o122 (q) (by omega)).trans ((o111 (q) (by omega)).trans ((o100 (q) (by omega)).trans ((o28 (q) (by omega)).trans (o17 (q) (by omega))))))))⟩
                          · exact absurd (hq9.1.symm.trans hz) (by decide)
                          · rw [hq9.2.1, hq9.2.2]
                            exact hw139
                  · skip
                    refine g_if_eq (tgt := 102) hx hb dX6_readMove_73 (by decide) (by decide) (fun c73 => ?_) (fun c73 => ?_)
                    · skip
                      refine g_iconst hx hb dX6_readMove_102 ?_
                      obtain ⟨ho140, ho141, ho142⟩ := id hw106
                      have hw143 : rdAt g f97 h T C (↑L : Int) (↑cnt : Int) (↑(((a + 1) + 1) + 1) : Int) nm := ⟨ho140, ho141, ho142⟩
                      refine g_zret hx hb hr hlk hK hM dX6_readMove_103 rfl ?_
                      have hq9 : (sMo T L a).1 = false ∧ (sMo T L a).2.1 = (((a + 1) + 1) + 1) := by
                        unfold sMo plV
                        simp only [*, dg, if_true, if_false, ↓reduceIte, decide_true, decide_false, true_and, and_self, not_true_eq_false, not_false_eq_true, decide_eq_true_eq, decide_eq_false_iff_not, and_true]
                      refine ⟨by rw [hq9.1]; rfl, ⟨nm, fun hz => ?_, fun hz => ?_⟩, (fun q hq => ((o100 (q) (by omega)).trans ((o28 (q) (by omega)).trans (o17 (q) (by omega)))))⟩
                      · rw [hq9.2]
                        exact hw143
                      · exact absurd (hq9.1.symm.trans hz) (by decide)
                    · exact absurd c73 (by decide)
              · skip
                refine g_if_eq (tgt := 102) hx hb dX6_readMove_64 (by decide) (by decide) (fun c64 => ?_) (fun c64 => ?_)
                · skip
                  refine g_iconst hx hb dX6_readMove_102 ?_
                  obtain ⟨ho144, ho145, ho146⟩ := id hw95
                  have hw147 : rdAt g f25 h T C (↑L : Int) (↑cnt : Int) (↑((a + 1) + 1) : Int) nm := ⟨ho144, ho145, ho146⟩
                  refine g_zret hx hb hr hlk hK hM dX6_readMove_103 rfl ?_
                  have hq9 : (sMo T L a).1 = false ∧ (sMo T L a).2.1 = ((a + 1) + 1) := by
                    unfold sMo plV
                    simp only [*, dg, if_true, if_false, ↓reduceIte, decide_true, decide_false, true_and, and_self, not_true_eq_false, not_false_eq_true, decide_eq_true_eq, decide_eq_false_iff_not, and_true]
                  refine ⟨by rw [hq9.1]; rfl, ⟨nm, fun hz => ?_, fun hz => ?_⟩, (fun q hq => ((o28 (q) (by omega)).trans (o17 (q) (by omega))))⟩
                  · rw [hq9.2]
                    exact hw147
                  · exact absurd (hq9.1.symm.trans hz) (by decide)
                · exact absurd c64 (by decide)
          · exact absurd c34 (by decide)
        · skip
          refine g_if_ne (tgt := 39) hx hb dX6_readMove_34 (by decide) (by decide) (fun c34 => ?_) (fun c34 => ?_)
          · exact absurd c34 (by decide)
          · skip
            refine g_iconst hx hb dX6_readMove_37 ?_
            obtain ⟨ho148, ho149, ho150⟩ := id hw23
            have hw151 : rdAt g f14 h T C (↑L : Int) (↑cnt : Int) (↑(a + 1) : Int) nm := ⟨ho148, ho149, ho150⟩
            refine g_zret hx hb hr hlk hK hM dX6_readMove_38 rfl ?_
            have hq9 : (sMo T L a).1 = false ∧ (sMo T L a).2.1 = (a + 1) := by
              unfold sMo plV
              simp only [*, dg, if_true, if_false, ↓reduceIte, decide_true, decide_false, true_and, and_self, not_true_eq_false, not_false_eq_true, decide_eq_true_eq, decide_eq_false_iff_not, and_true]
            refine ⟨by rw [hq9.1]; rfl, ⟨nm, fun hz => ?_, fun hz => ?_⟩, (fun q hq => (o17 (q) (by omega)))⟩
            · rw [hq9.2]
              exact hw151
            · exact absurd (hq9.1.symm.trans hz) (by decide)
    · skip
      refine g_if_eq (tgt := 37) hx hb dX6_readMove_25 (by decide) (by decide) (fun c25 => ?_) (fun c25 => ?_)
      · skip
        refine g_iconst hx hb dX6_readMove_37 ?_
        obtain ⟨ho152, ho153, ho154⟩ := id hw12
        have hw155 : rdAt g f h T C (↑L : Int) (↑cnt : Int) (↑a : Int) nm := ⟨ho152, ho153, ho154⟩
        refine g_zret hx hb hr hlk hK hM dX6_readMove_38 rfl ?_
        have hq9 : (sMo T L a).1 = false ∧ (sMo T L a).2.1 = a := by
          unfold sMo plV
          simp only [*, dg, if_true, if_false, ↓reduceIte, decide_true, decide_false, true_and, and_self, not_true_eq_false, not_false_eq_true, decide_eq_true_eq, decide_eq_false_iff_not, and_true]
        refine ⟨by rw [hq9.1]; rfl, ⟨nm, fun hz => ?_, fun hz => ?_⟩, (fun q hq => rfl)⟩
        · rw [hq9.2]
          exact hw155
        · exact absurd (hq9.1.symm.trans hz) (by decide)
      · exact absurd c25 (by decide)
  · skip
    refine g_iconst hx hb dX6_readMove_9 ?_
    refine lv_goto (tgt := 20) hx hb dX6_readMove_10 (by decide) ?_
    refine lv_istore_n (lv' := [(1, .int (zI (-1))), (0, .ref h)]) hx hb dX6_readMove_20 rfl hl (by decide) rfl (fun ls hl => ?_)
    refine lv_aload_n hx hb dX6_readMove_21 rfl (lv_at hl 1 rfl) ?_
    have hw156 : rdAt g f h T C (↑L : Int) (↑cnt : Int) (↑a : Int) nm := ⟨ho1, ho2, ho3⟩
    have hC157 := c_X6_acceptPlace l g b0 n f h T C L cnt a nm  hw156 hrg hT hL (by omega) 
    refine g_callVi (ci := 8) (C := RX6) (T := TX6) (N := 6) (As := []) (rest := []) ⟨hx, hb, hml, hown, hts⟩ hK hM hC157 (cuV (n := 0) hts u_354 u_351 u_9 (by decide) u_353 us_9 ⟨Nat.le_of_ble_eq_true rfl, Nat.le_of_ble_eq_true rfl⟩) ⟨by omega, by omega⟩ ho1 rfl rfl hl.1 rfl (Nat.le_of_ble_eq_true rfl) dX6_readMove_22 ⟨Nat.zero_le _, Nat.zero_le _⟩ (fun r22 f158 H locs hM hp159 => ?_)
    rcases hp159 with ⟨hq162, rfl, hn160, o161⟩ | ⟨hq162, rfl, rfl⟩
    · skip
      have hlthq162 : a < L := nx_lt (T := T) (L := L) (a := a) (by unfold plG dg at hq162; omega)
      have hw163 : rdAt g f158 h T C (↑L : Int) (↑cnt : Int) (↑(a + 1) : Int) nm := by rw [Int.natCast_add]; exact hn160
      refine g_if_eq (tgt := 37) hx hb dX6_readMove_25 (by decide) (by decide) (fun c25 => ?_) (fun c25 => ?_)
      · exact absurd c25 (by decide)
      · skip
        refine lv_aload_n hx hb dX6_readMove_28 rfl (lv_at hl 1 rfl) ?_
        refine g_bipush hx hb dX6_readMove_29 (by decide) ?_
        obtain ⟨ho164, ho165, ho166⟩ := id hw163
        have hw167 : rdAt g f158 h T C (↑L : Int) (↑cnt : Int) (↑(a + 1) : Int) nm := ⟨ho164, ho165, ho166⟩
        have hC168 := c_X6_accept l g b0 n f158 h T C L cnt (a + 1) nm 62 hw167 hrg hT hL (by omega) (by decide) (by decide)
        refine g_callVi (ci := 8) (C := RX6) (T := TX6) (N := 6) (As := [.int (zI 62)]) (rest := []) ⟨hx, hb, hml, hown, hts⟩ hK hM hC168 (cuV (n := 1) hts u_346 u_343 u_9 (by decide) u_345 us_7 ⟨Nat.le_of_ble_eq_true rfl, Nat.le_of_ble_eq_true rfl⟩) ⟨by omega, by omega⟩ ho164 rfl rfl hl.1 rfl (Nat.le_of_ble_eq_true rfl) dX6_readMove_31 ⟨Nat.zero_le _, Nat.zero_le _⟩ (fun r31 f169 H locs hM hp170 => ?_)
        rcases hp170 with ⟨hq173, rfl, hn171, o172⟩ | ⟨hq173, rfl, rfl⟩
        · skip
          have hlthq173 : (a + 1) < L := nx_lt (T := T) (L := L) (a := (a + 1)) (by omega)
          have hw174 : rdAt g f169 h T C (↑L : Int) (↑cnt : Int) (↑((a + 1) + 1) : Int) nm := by rw [Int.natCast_add]; exact hn171
          refine g_if_ne (tgt := 39) hx hb dX6_readMove_34 (by decide) (by decide) (fun c34 => ?_) (fun c34 => ?_)
          · skip
            refine lv_aload_n hx hb dX6_readMove_39 rfl (lv_at hl 1 rfl) ?_
            obtain ⟨ho175, ho176, ho177⟩ := id hw174
            have hw178 : rdAt g f169 h T C (↑L : Int) (↑cnt : Int) (↑((a + 1) + 1) : Int) nm := ⟨ho175, ho176, ho177⟩
            have hC179 := c_X6_next l g b0 n f169 h T C L cnt ((a + 1) + 1) nm hw178 hrg hT hL (by omega)
            refine g_callVi (ci := 8) (C := RX6) (T := TX6) (N := 6) (As := []) (rest := []) ⟨hx, hb, hml, hown, hts⟩ hK hM hC179 (cuV (n := 0) hts u_322 u_319 u_9 (by decide) u_321 us_1 ⟨Nat.le_of_ble_eq_true rfl, Nat.le_of_ble_eq_true rfl⟩) ⟨by omega, by omega⟩ ho175 rfl rfl hl.1 rfl (Nat.le_of_ble_eq_true rfl) dX6_readMove_40 ⟨Nat.zero_le _, Nat.zero_le _⟩ (fun r40 f180 H locs hM hp181 => ?_)
            obtain ⟨rfl, rfl⟩ := hp181
            refine g_bipush hx hb dX6_readMove_43 (by decide) ?_
            refine g_icmp_ne (tgt := 52) hx hb dX6_readMove_45 (by decide) (by have := nx_in (L := L) (a := ((a + 1) + 1)) hT; exact ⟨by omega, by omega⟩) (by decide) (fun c45 => ?_) (fun c45 => ?_)
            · skip
              refine lv_aload_n hx hb dX6_readMove_52 rfl (lv_at hl 1 rfl) ?_
              have hw182 : rdAt g f169 h T C (↑L : Int) (↑cnt : Int) (↑((a + 1) + 1) : Int) nm := ⟨ho175, ho176, ho177⟩
              have hC183 := c_X6_next l g b0 n f169 h T C L cnt ((a + 1) + 1) nm hw182 hrg hT hL (by omega)
              refine g_callVi (ci := 8) (C := RX6) (T := TX6) (N := 6) (As := []) (rest := []) ⟨hx, hb, hml, hown, hts⟩ hK hM hC183 (cuV (n := 0) hts u_322 u_319 u_9 (by decide) u_321 us_1 ⟨Nat.le_of_ble_eq_true rfl, Nat.le_of_ble_eq_true rfl⟩) ⟨by omega, by omega⟩ ho175 rfl rfl hl.1 rfl (Nat.le_of_ble_eq_true rfl) dX6_readMove_53 ⟨Nat.zero_le _, Nat.zero_le _⟩ (fun r53 f184 H locs hM hp185 => ?_)
              obtain ⟨rfl, rfl⟩ := hp185
              refine g_bipush hx hb dX6_readMove_56 (by decide) ?_
              refine g_isub hx hb dX6_readMove_58 ?_
              refine lv_istore_n (lv' := [(2, .int (zI ((nx T L ((a + 1) + 1)) - 48))), (1, .int (zI (-1))), (0, .ref h)]) hx hb dX6_readMove_59 rfl hl (by decide) rfl (fun ls hl => ?_)
              refine lv_aload_n hx hb dX6_readMove_60 rfl (lv_at hl 2 rfl) ?_
              have hw186 : rdAt g f169 h T C (↑L : Int) (↑cnt : Int) (↑((a + 1) + 1) : Int) nm := ⟨ho175, ho176, ho177⟩
              have hC187 := c_X6_acceptPlace l g b0 n f169 h T C L cnt ((a + 1) + 1) nm  hw186 hrg hT hL (by omega) 
              refine g_callVi (ci := 8) (C := RX6) (T := TX6) (N := 6) (As := []) (rest := []) ⟨hx, hb, hml, hown, hts⟩ hK hM hC187 (cuV (n := 0) hts u_354 u_351 u_9 (by decide) u_353 us_9 ⟨Nat.le_of_ble_eq_true rfl, Nat.le_of_ble_eq_true rfl⟩) ⟨by omega, by omega⟩ ho175 rfl rfl hl.1 rfl (Nat.le_of_ble_eq_true rfl) dX6_readMove_61 ⟨Nat.zero_le _, Nat.zero_le _⟩ (fun r61 f188 H locs hM hp189 => ?_)
              rcases hp189 with ⟨hq192, rfl, hn190, o191⟩ | ⟨hq192, rfl, rfl⟩
              · skip
                have hlthq192 : ((a + 1) + 1) < L := nx_lt (T := T) (L := L) (a := ((a + 1) + 1)) (by unfold plG dg at hq192; omega)
                have hw193 : rdAt g f188 h T C (↑L : Int) (↑cnt : Int) (↑(((a + 1) + 1) + 1) : Int) nm := by rw [Int.natCast_add]; exact hn190
                refine g_if_eq (tgt := 102) hx hb dX6_readMove_64 (by decide) (by decide) (fun c64 => ?_) (fun c64 => ?_)
                · exact absurd c64 (by decide)
                · skip
                  refine lv_aload_n hx hb dX6_readMove_67 rfl (lv_at hl 2 rfl) ?_
                  refine g_bipush hx hb dX6_readMove_68 (by decide) ?_
                  obtain ⟨ho194, ho195, ho196⟩ := id hw193
                  have hw197 : rdAt g f188 h T C (↑L : Int) (↑cnt : Int) (↑(((a + 1) + 1) + 1) : Int) nm := ⟨ho194, ho195, ho196⟩
                  have hC198 := c_X6_accept l g b0 n f188 h T C L cnt (((a + 1) + 1) + 1) nm 58 hw197 hrg hT hL (by omega) (by decide) (by decide)
                  refine g_callVi (ci := 8) (C := RX6) (T := TX6) (N := 6) (As := [.int (zI 58)]) (rest := []) ⟨hx, hb, hml, hown, hts⟩ hK hM hC198 (cuV (n := 1) hts u_346 u_343 u_9 (by decide) u_345 us_7 ⟨Nat.le_of_ble_eq_true rfl, Nat.le_of_ble_eq_true rfl⟩) ⟨by omega, by omega⟩ ho194 rfl rfl hl.1 rfl (Nat.le_of_ble_eq_true rfl) dX6_readMove_70 ⟨Nat.zero_le _, Nat.zero_le _⟩ (fun r70 f199 H locs hM hp200 => ?_)
                  rcases hp200 with ⟨hq203, rfl, hn201, o202⟩ | ⟨hq203, rfl, rfl⟩
                  · skip
                    have hlthq203 : (((a + 1) + 1) + 1) < L := nx_lt (T := T) (L := L) (a := (((a + 1) + 1) + 1)) (by omega)
                    have hw204 : rdAt g f199 h T C (↑L : Int) (↑cnt : Int) (↑((((a + 1) + 1) + 1) + 1) : Int) nm := by rw [Int.natCast_add]; exact hn201
                    refine g_if_eq (tgt := 102) hx hb dX6_readMove_73 (by decide) (by decide) (fun c73 => ?_) (fun c73 => ?_)
                    · exact absurd c73 (by decide)
                    · skip
                      refine lv_aload_n hx hb dX6_readMove_76 rfl (lv_at hl 2 rfl) ?_
                      obtain ⟨ho205, ho206, ho207⟩ := id hw204
                      have hw208 : rdAt g f199 h T C (↑L : Int) (↑cnt : Int) (↑((((a + 1) + 1) + 1) + 1) : Int) nm := ⟨ho205, ho206, ho207⟩
                      have hC209 := c_X6_readNumber l g b0 n f199 h T C L cnt ((((a + 1) + 1) + 1) + 1) nm hw208 hrg hT hL (by omega)
                      refine g_callVi (ci := 8) (C := RX6) (T := TX6) (N := 6) (As := []) (rest := []) ⟨hx, hb, hml, hown, hts⟩ hK hM hC209 (cuV (n := 0) hts u_330 u_327 u_9 (by decide) u_329 us_3 ⟨Nat.le_of_ble_eq_true rfl, Nat.le_of_ble_eq_true rfl⟩) ⟨by omega, by omega⟩ ho205 rfl rfl hl.1 rfl (Nat.le_of_ble_eq_true rfl) dX6_readMove_77 ⟨Nat.zero_le _, Nat.zero_le _⟩ (fun r77 f210 H locs hM hp211 => ?_)
                      obtain ⟨rfl, hn212, o213⟩ := hp211
                      have h7hn212 := sNum_7 (T := T) (a := ((((a + 1) + 1) + 1) + 1)) hL (by omega)
                      refine g_ifb_eq (tgt := 102) hx hb dX6_readMove_80 (by decide) (fun c80 => ?_) (fun c80 => ?_)
                      · skip
                        refine g_iconst hx hb dX6_readMove_102 ?_
                        obtain ⟨ho214, ho215, ho216⟩ := id hn212
                        have hw217 : rdAt g f210 h T C (↑L : Int) (↑cnt : Int) (↑((sNum T L 7 ((((a + 1) + 1) + 1) + 1) 0).1) : Int) ((sNum T L 7 ((((a + 1) + 1) + 1) + 1) 0).2) := ⟨ho214, ho215, ho216⟩
                        refine g_zret hx hb hr hlk hK hM dX6_readMove_103 rfl ?_
                        have hq9 : (sMo T L a).1 = false ∧ (sMo T L a).2.1 = ((sNum T L 7 ((((a + 1) + 1) + 1) + 1) 0).1) := by
                          unfold sMo plV
                          simp only [*, dg, if_true, if_false, ↓reduceIte, decide_true, decide_false, true_and, and_self, not_true_eq_false, not_false_eq_true, decide_eq_true_eq, decide_eq_false_iff_not, and_true]
                        refine ⟨by rw [hq9.1]; rfl, ⟨((sNum T L 7 ((((a + 1) + 1) + 1) + 1) 0).2), fun hz => ?_, fun hz => ?_⟩, (fun q hq => ((o213 (q) (by omega)).trans ((o202 (q) (by omega)).trans ((o191 (q) (by omega)).trans ((o172 (q) (by omega)).trans (o161 (q) (by omega)))))))⟩
                        · rw [hq9.2]
                          exact hw217
                        · exact absurd (hq9.1.symm.trans hz) (by decide)
                      · skip
                        refine lv_aload_n hx hb dX6_readMove_83 rfl (lv_at hl 2 rfl) ?_
                        refine g_bipush hx hb dX6_readMove_84 (by decide) ?_
                        refine lv_iload_n hx hb dX6_readMove_86 rfl (lv_at hl 1 rfl) ?_
                        refine lv_iload_n hx hb dX6_readMove_87 rfl (lv_at hl 0 rfl) ?_
                        refine lv_aload_n hx hb dX6_readMove_88 rfl (lv_at hl 2 rfl) ?_
                        obtain ⟨ho218, ho219, ho220⟩ := id hn212
                        refine g_get (ci := 8) (v := .int (zI ((sNum T L 7 ((((a + 1) + 1) + 1) + 1) 0).2))) (C := RX6) (T := TX6) (N := 6) hx hb hts iU_X6 hown hK hM ⟨by omega, by omega⟩ ho218 rfl 5 (by decide) (hts _ u_260) (fun _ h9 => h9) rfl dX6_readMove_89 ?_
                        have hw221 : rdAt g f210 h T C (↑L : Int) (↑cnt : Int) (↑((sNum T L 7 ((((a + 1) + 1) + 1) + 1) 0).1) : Int) ((sNum T L 7 ((((a + 1) + 1) + 1) + 1) 0).2) := ⟨ho218, ho219, ho220⟩
                        have hC222 := c_X6_keep l g b0 n f210 h T C L cnt ((sNum T L 7 ((((a + 1) + 1) + 1) + 1) 0).1) ((sNum T L 7 ((((a + 1) + 1) + 1) + 1) 0).2) 11 (-1) ((nx T L ((a + 1) + 1)) - 48) ((sNum T L 7 ((((a + 1) + 1) + 1) + 1) 0).2) hw221 hrg hcn
                        refine g_callVi (ci := 8) (C := RX6) (T := TX6) (N := 6) (As := [.int (zI 11), .int (zI (-1)), .int (zI ((nx T L ((a + 1) + 1)) - 48)), .int (zI ((sNum T L 7 ((((a + 1) + 1) + 1) + 1) 0).2))]) (rest := []) ⟨hx, hb, hml, hown, hts⟩ hK hM hC222 (cuV (n := 4) hts u_326 u_323 u_9 (by decide) u_325 us_2 ⟨Nat.le_of_ble_eq_true rfl, Nat.le_of_ble_eq_true rfl⟩) ⟨by omega, by omega⟩ ho218 rfl rfl hl.1 rfl (Nat.le_of_ble_eq_true rfl) dX6_readMove_92 ⟨Nat.zero_le _, Nat.zero_le _⟩ (fun r92 f223 H locs hM hp224 => ?_)
                        obtain ⟨rfl, hn225, o226⟩ := hp224
                        refine g_if_eq (tgt := 102) hx hb dX6_readMove_95 (by decide) (by decide) (fun c95 => ?_) (fun c95 => ?_)
                        · exact absurd c95 (by decide)
                        · skip
                          refine g_iconst hx hb dX6_readMove_98 ?_
                          refine lv_goto (tgt := 103) hx hb dX6_readMove_99 (by decide) ?_
                          obtain ⟨ho227, ho228, ho229⟩ := id hn225
                          have hw230 : rdAt g f223 h T (kp C cnt 11 (-1) ((nx T L ((a + 1) + 1)) - 48) ((sNum T L 7 ((((a + 1) + 1) + 1) + 1) 0).2)) (↑L : Int) (↑(cnt + 1) : Int) (↑((sNum T L 7 ((((a + 1) + 1) + 1) + 1) 0).1) : Int) ((sNum T L 7 ((((a + 1) + 1) + 1) + 1) 0).2) := ⟨ho227, ho228, ho229⟩
                          refine g_zret hx hb hr hlk hK hM dX6_readMove_103 rfl ?_
                          have hq9 : (sMo T L a).1 = true ∧ (sMo T L a).2.1 = ((sNum T L 7 ((((a + 1) + 1) + 1) + 1) 0).1) ∧ kp C cnt (sMo T L a).2.2.1 (sMo T L a).2.2.2.1 (sMo T L a).2.2.2.2.1 (sMo T L a).2.2.2.2.2 = (kp C cnt 11 (-1) ((nx T L ((a + 1) + 1)) - 48) ((sNum T L 7 ((((a + 1) + 1) + 1) + 1) 0).2)) := by
                            unfold sMo plV
                            simp only [*, dg, if_true, if_false, ↓reduceIte, decide_true, decide_false, true_and, and_self, not_true_eq_false, not_false_eq_true, decide_eq_true_eq, decide_eq_false_iff_not, and_true]
                          refine ⟨by rw [hq9.1]; rfl, ⟨((sNum T L 7 ((((a + 1) + 1) + 1) + 1) 0).2), fun hz => ?_, fun hz => ?_⟩, (fun q hq => ((o226 (q) (by omega)).trans ((o213 (q) (by omega)).trans ((o202 (q) (by omega)).trans ((o191 (q) (by omega)).trans ((o172 (q) (by omega)).trans (o161 (q) (by omega))))))))⟩
                          · exact absurd (hq9.1.symm.trans hz) (by decide)
                          · rw [hq9.2.1, hq9.2.2]
                            exact hw230
                  · skip
                    refine g_if_eq (tgt := 102) hx hb dX6_readMove_73 (by decide) (by decide) (fun c73 => ?_) (fun c73 => ?_)
                    · skip
                      refine g_iconst hx hb dX6_readMove_102 ?_
                      obtain ⟨ho231, ho232, ho233⟩ := id hw197
                      have hw234 : rdAt g f188 h T C (↑L : Int) (↑cnt : Int) (↑(((a + 1) + 1) + 1) : Int) nm := ⟨ho231, ho232, ho233⟩
                      refine g_zret hx hb hr hlk hK hM dX6_readMove_103 rfl ?_
                      have hq9 : (sMo T L a).1 = false ∧ (sMo T L a).2.1 = (((a + 1) + 1) + 1) := by
                        unfold sMo plV
                        simp only [*, dg, if_true, if_false, ↓reduceIte, decide_true, decide_false, true_and, and_self, not_true_eq_false, not_false_eq_true, decide_eq_true_eq, decide_eq_false_iff_not, and_true]
                      refine ⟨by rw [hq9.1]; rfl, ⟨nm, fun hz => ?_, fun hz => ?_⟩, (fun q hq => ((o191 (q) (by omega)).trans ((o172 (q) (by omega)).trans (o161 (q) (by omega)))))⟩
                      · rw [hq9.2]
                        exact hw234
                      · exact absurd (hq9.1.symm.trans hz) (by decide)
                    · exact absurd c73 (by decide)
              · skip
                refine g_if_eq (tgt := 102) hx hb dX6_readMove_64 (by decide) (by decide) (fun c64 => ?_) (fun c64 => ?_)
                · skip
                  refine g_iconst hx hb dX6_readMove_102 ?_
                  obtain ⟨ho235, ho236, ho237⟩ := id hw186
                  have hw238 : rdAt g f169 h T C (↑L : Int) (↑cnt : Int) (↑((a + 1) + 1) : Int) nm := ⟨ho235, ho236, ho237⟩
                  refine g_zret hx hb hr hlk hK hM dX6_readMove_103 rfl ?_
                  have hq9 : (sMo T L a).1 = false ∧ (sMo T L a).2.1 = ((a + 1) + 1) := by
                    unfold sMo plV
                    simp only [*, dg, if_true, if_false, ↓reduceIte, decide_true, decide_false, true_and, and_self, not_true_eq_false, not_false_eq_true, decide_eq_true_eq, decide_eq_false_iff_not, and_true]
                  refine ⟨by rw [hq9.1]; rfl, ⟨nm, fun hz => ?_, fun hz => ?_⟩, (fun q hq => ((o172 (q) (by omega)).trans (o161 (q) (by omega))))⟩
                  · rw [hq9.2]
                    exact hw238
                  · exact absurd (hq9.1.symm.trans hz) (by decide)
                · exact absurd c64 (by decide)
            · skip
              refine g_iconst hx hb dX6_readMove_48 ?_
              refine lv_goto (tgt := 59) hx hb dX6_readMove_49 (by decide) ?_
              refine lv_istore_n (lv' := [(2, .int (zI (-1))), (1, .int (zI (-1))), (0, .ref h)]) hx hb dX6_readMove_59 rfl hl (by decide) rfl (fun ls hl => ?_)
              refine lv_aload_n hx hb dX6_readMove_60 rfl (lv_at hl 2 rfl) ?_
              have hw239 : rdAt g f169 h T C (↑L : Int) (↑cnt : Int) (↑((a + 1) + 1) : Int) nm := ⟨ho175, ho176, ho177⟩
              have hC240 := c_X6_acceptPlace l g b0 n f169 h T C L cnt ((a + 1) + 1) nm  hw239 hrg hT hL (by omega) 
              refine g_callVi (ci := 8) (C := RX6) (T := TX6) (N := 6) (As := []) (rest := []) ⟨hx, hb, hml, hown, hts⟩ hK hM hC240 (cuV (n := 0) hts u_354 u_351 u_9 (by decide) u_353 us_9 ⟨Nat.le_of_ble_eq_true rfl, Nat.le_of_ble_eq_true rfl⟩) ⟨by omega, by omega⟩ ho175 rfl rfl hl.1 rfl (Nat.le_of_ble_eq_true rfl) dX6_readMove_61 ⟨Nat.zero_le _, Nat.zero_le _⟩ (fun r61 f241 H locs hM hp242 => ?_)
              rcases hp242 with ⟨hq245, rfl, hn243, o244⟩ | ⟨hq245, rfl, rfl⟩
              · skip
                have hlthq245 : ((a + 1) + 1) < L := nx_lt (T := T) (L := L) (a := ((a + 1) + 1)) (by unfold plG dg at hq245; omega)
                have hw246 : rdAt g f241 h T C (↑L : Int) (↑cnt : Int) (↑(((a + 1) + 1) + 1) : Int) nm := by rw [Int.natCast_add]; exact hn243
                refine g_if_eq (tgt := 102) hx hb dX6_readMove_64 (by decide) (by decide) (fun c64 => ?_) (fun c64 => ?_)
                · exact absurd c64 (by decide)
                · skip
                  refine lv_aload_n hx hb dX6_readMove_67 rfl (lv_at hl 2 rfl) ?_
                  refine g_bipush hx hb dX6_readMove_68 (by decide) ?_
                  obtain ⟨ho247, ho248, ho249⟩ := id hw246
                  have hw250 : rdAt g f241 h T C (↑L : Int) (↑cnt : Int) (↑(((a + 1) + 1) + 1) : Int) nm := ⟨ho247, ho248, ho249⟩
                  have hC251 := c_X6_accept l g b0 n f241 h T C L cnt (((a + 1) + 1) + 1) nm 58 hw250 hrg hT hL (by omega) (by decide) (by decide)
                  refine g_callVi (ci := 8) (C := RX6) (T := TX6) (N := 6) (As := [.int (zI 58)]) (rest := []) ⟨hx, hb, hml, hown, hts⟩ hK hM hC251 (cuV (n := 1) hts u_346 u_343 u_9 (by decide) u_345 us_7 ⟨Nat.le_of_ble_eq_true rfl, Nat.le_of_ble_eq_true rfl⟩) ⟨by omega, by omega⟩ ho247 rfl rfl hl.1 rfl (Nat.le_of_ble_eq_true rfl) dX6_readMove_70 ⟨Nat.zero_le _, Nat.zero_le _⟩ (fun r70 f252 H locs hM hp253 => ?_)
                  rcases hp253 with ⟨hq256, rfl, hn254, o255⟩ | ⟨hq256, rfl, rfl⟩
                  · skip
                    have hlthq256 : (((a + 1) + 1) + 1) < L := nx_lt (T := T) (L := L) (a := (((a + 1) + 1) + 1)) (by omega)
                    have hw257 : rdAt g f252 h T C (↑L : Int) (↑cnt : Int) (↑((((a + 1) + 1) + 1) + 1) : Int) nm := by rw [Int.natCast_add]; exact hn254
                    refine g_if_eq (tgt := 102) hx hb dX6_readMove_73 (by decide) (by decide) (fun c73 => ?_) (fun c73 => ?_)
                    · exact absurd c73 (by decide)
                    · skip
                      refine lv_aload_n hx hb dX6_readMove_76 rfl (lv_at hl 2 rfl) ?_
                      obtain ⟨ho258, ho259, ho260⟩ := id hw257
                      have hw261 : rdAt g f252 h T C (↑L : Int) (↑cnt : Int) (↑((((a + 1) + 1) + 1) + 1) : Int) nm := ⟨ho258, ho259, ho260⟩
                      have hC262 := c_X6_readNumber l g b0 n f252 h T C L cnt ((((a + 1) + 1) + 1) + 1) nm hw261 hrg hT hL (by omega)
                      refine g_callVi (ci := 8) (C := RX6) (T := TX6) (N := 6) (As := []) (rest := []) ⟨hx, hb, hml, hown, hts⟩ hK hM hC262 (cuV (n := 0) hts u_330 u_327 u_9 (by decide) u_329 us_3 ⟨Nat.le_of_ble_eq_true rfl, Nat.le_of_ble_eq_true rfl⟩) ⟨by omega, by omega⟩ ho258 rfl rfl hl.1 rfl (Nat.le_of_ble_eq_true rfl) dX6_readMove_77 ⟨Nat.zero_le _, Nat.zero_le _⟩ (fun r77 f263 H locs hM hp264 => ?_)
                      obtain ⟨rfl, hn265, o266⟩ := hp264
                      have h7hn265 := sNum_7 (T := T) (a := ((((a + 1) + 1) + 1) + 1)) hL (by omega)
                      refine g_ifb_eq (tgt := 102) hx hb dX6_readMove_80 (by decide) (fun c80 => ?_) (fun c80 => ?_)
                      · skip
                        refine g_iconst hx hb dX6_readMove_102 ?_
                        obtain ⟨ho267, ho268, ho269⟩ := id hn265
                        have hw270 : rdAt g f263 h T C (↑L : Int) (↑cnt : Int) (↑((sNum T L 7 ((((a + 1) + 1) + 1) + 1) 0).1) : Int) ((sNum T L 7 ((((a + 1) + 1) + 1) + 1) 0).2) := ⟨ho267, ho268, ho269⟩
                        refine g_zret hx hb hr hlk hK hM dX6_readMove_103 rfl ?_
                        have hq9 : (sMo T L a).1 = false ∧ (sMo T L a).2.1 = ((sNum T L 7 ((((a + 1) + 1) + 1) + 1) 0).1) := by
                          unfold sMo plV
                          simp only [*, dg, if_true, if_false, ↓reduceIte, decide_true, decide_false, true_and, and_self, not_true_eq_false, not_false_eq_true, decide_eq_true_eq, decide_eq_false_iff_not, and_true]
                        refine ⟨by rw [hq9.1]; rfl, ⟨((sNum T L 7 ((((a + 1) + 1) + 1) + 1) 0).2), fun hz => ?_, fun hz => ?_⟩, (fun q hq => ((o266 (q) (by omega)).trans ((o255 (q) (by omega)).trans ((o244 (q) (by omega)).trans ((o172 (q) (by omega)).trans (o161 (q) (by omega)))))))⟩
                        · rw [hq9.2]
                          exact hw270
                        · exact absurd (hq9.1.symm.trans hz) (by decide)
                      · skip
                        refine lv_aload_n hx hb dX6_readMove_83 rfl (lv_at hl 2 rfl) ?_
                        refine g_bipush hx hb dX6_readMove_84 (by decide) ?_
                        refine lv_iload_n hx hb dX6_readMove_86 rfl (lv_at hl 1 rfl) ?_
                        refine lv_iload_n hx hb dX6_readMove_87 rfl (lv_at hl 0 rfl) ?_
                        refine lv_aload_n hx hb dX6_readMove_88 rfl (lv_at hl 2 rfl) ?_
                        obtain ⟨ho271, ho272, ho273⟩ := id hn265
                        refine g_get (ci := 8) (v := .int (zI ((sNum T L 7 ((((a + 1) + 1) + 1) + 1) 0).2))) (C := RX6) (T := TX6) (N := 6) hx hb hts iU_X6 hown hK hM ⟨by omega, by omega⟩ ho271 rfl 5 (by decide) (hts _ u_260) (fun _ h9 => h9) rfl dX6_readMove_89 ?_
                        have hw274 : rdAt g f263 h T C (↑L : Int) (↑cnt : Int) (↑((sNum T L 7 ((((a + 1) + 1) + 1) + 1) 0).1) : Int) ((sNum T L 7 ((((a + 1) + 1) + 1) + 1) 0).2) := ⟨ho271, ho272, ho273⟩
                        have hC275 := c_X6_keep l g b0 n f263 h T C L cnt ((sNum T L 7 ((((a + 1) + 1) + 1) + 1) 0).1) ((sNum T L 7 ((((a + 1) + 1) + 1) + 1) 0).2) 11 (-1) (-1) ((sNum T L 7 ((((a + 1) + 1) + 1) + 1) 0).2) hw274 hrg hcn
                        refine g_callVi (ci := 8) (C := RX6) (T := TX6) (N := 6) (As := [.int (zI 11), .int (zI (-1)), .int (zI (-1)), .int (zI ((sNum T L 7 ((((a + 1) + 1) + 1) + 1) 0).2))]) (rest := []) ⟨hx, hb, hml, hown, hts⟩ hK hM hC275 (cuV (n := 4) hts u_326 u_323 u_9 (by decide) u_325 us_2 ⟨Nat.le_of_ble_eq_true rfl, Nat.le_of_ble_eq_true rfl⟩) ⟨by omega, by omega⟩ ho271 rfl rfl hl.1 rfl (Nat.le_of_ble_eq_true rfl) dX6_readMove_92 ⟨Nat.zero_le _, Nat.zero_le _⟩ (fun r92 f276 H locs hM hp277 => ?_)
                        obtain ⟨rfl, hn278, o279⟩ := hp277
                        refine g_if_eq (tgt := 102) hx hb dX6_readMove_95 (by decide) (by decide) (fun c95 => ?_) (fun c95 => ?_)
                        · exact absurd c95 (by decide)
                        · skip
                          refine g_iconst hx hb dX6_readMove_98 ?_
                          refine lv_goto (tgt := 103) hx hb dX6_readMove_99 (by decide) ?_
                          obtain ⟨ho280, ho281, ho282⟩ := id hn278
                          have hw283 : rdAt g f276 h T (kp C cnt 11 (-1) (-1) ((sNum T L 7 ((((a + 1) + 1) + 1) + 1) 0).2)) (↑L : Int) (↑(cnt + 1) : Int) (↑((sNum T L 7 ((((a + 1) + 1) + 1) + 1) 0).1) : Int) ((sNum T L 7 ((((a + 1) + 1) + 1) + 1) 0).2) := ⟨ho280, ho281, ho282⟩
                          refine g_zret hx hb hr hlk hK hM dX6_readMove_103 rfl ?_
                          have hq9 : (sMo T L a).1 = true ∧ (sMo T L a).2.1 = ((sNum T L 7 ((((a + 1) + 1) + 1) + 1) 0).1) ∧ kp C cnt (sMo T L a).2.2.1 (sMo T L a).2.2.2.1 (sMo T L a).2.2.2.2.1 (sMo T L a).2.2.2.2.2 = (kp C cnt 11 (-1) (-1) ((sNum T L 7 ((((a + 1) + 1) + 1) + 1) 0).2)) := by
                            unfold sMo plV
                            simp only [*, dg, if_true, if_false, ↓reduceIte, decide_true, decide_false, true_and, and_self, not_true_eq_false, not_false_eq_true, decide_eq_true_eq, decide_eq_false_iff_not, and_true]
                          refine ⟨by rw [hq9.1]; rfl, ⟨((sNum T L 7 ((((a + 1) + 1) + 1) + 1) 0).2), fun hz => ?_, fun hz => ?_⟩, (fun q hq => ((o279 (q) (by omega)).trans ((o266 (q) (by omega)).trans ((o255 (q) (by omega)).trans ((o244 (q) (by omega)).trans ((o172 (q) (by omega)).trans (o161 (q) (by omega))))))))⟩
                          · exact absurd (hq9.1.symm.trans hz) (by decide)
                          · rw [hq9.2.1, hq9.2.2]
                            exact hw283
                  · skip
                    refine g_if_eq (tgt := 102) hx hb dX6_readMove_73 (by decide) (by decide) (fun c73 => ?_) (fun c73 => ?_)
                    · skip
                      refine g_iconst hx hb dX6_readMove_102 ?_
                      obtain ⟨ho284, ho285, ho286⟩ := id hw250
                      have hw287 : rdAt g f241 h T C (↑L : Int) (↑cnt : Int) (↑(((a + 1) + 1) + 1) : Int) nm := ⟨ho284, ho285, ho286⟩
                      refine g_zret hx hb hr hlk hK hM dX6_readMove_103 rfl ?_
                      have hq9 : (sMo T L a).1 = false ∧ (sMo T L a).2.1 = (((a + 1) + 1) + 1) := by
                        unfold sMo plV
                        simp only [*, dg, if_true, if_false, ↓reduceIte, decide_true, decide_false, true_and, and_self, not_true_eq_false, not_false_eq_true, decide_eq_true_eq, decide_eq_false_iff_not, and_true]
                      refine ⟨by rw [hq9.1]; rfl, ⟨nm, fun hz => ?_, fun hz => ?_⟩, (fun q hq => ((o244 (q) (by omega)).trans ((o172 (q) (by omega)).trans (o161 (q) (by omega)))))⟩
                      · rw [hq9.2]
                        exact hw287
                      · exact absurd (hq9.1.symm.trans hz) (by decide)
                    · exact absurd c73 (by decide)
              · skip
                refine g_if_eq (tgt := 102) hx hb dX6_readMove_64 (by decide) (by decide) (fun c64 => ?_) (fun c64 => ?_)
                · skip
                  refine g_iconst hx hb dX6_readMove_102 ?_
                  obtain ⟨ho288, ho289, ho290⟩ := id hw239
                  have hw291 : rdAt g f169 h T C (↑L : Int) (↑cnt : Int) (↑((a + 1) + 1) : Int) nm := ⟨ho288, ho289, ho290⟩
                  refine g_zret hx hb hr hlk hK hM dX6_readMove_103 rfl ?_
                  have hq9 : (sMo T L a).1 = false ∧ (sMo T L a).2.1 = ((a + 1) + 1) := by
                    unfold sMo plV
                    simp only [*, dg, if_true, if_false, ↓reduceIte, decide_true, decide_false, true_and, and_self, not_true_eq_false, not_false_eq_true, decide_eq_true_eq, decide_eq_false_iff_not, and_true]
                  refine ⟨by rw [hq9.1]; rfl, ⟨nm, fun hz => ?_, fun hz => ?_⟩, (fun q hq => ((o172 (q) (by omega)).trans (o161 (q) (by omega))))⟩
                  · rw [hq9.2]
                    exact hw291
                  · exact absurd (hq9.1.symm.trans hz) (by decide)
                · exact absurd c64 (by decide)
          · exact absurd c34 (by decide)
        · skip
          refine g_if_ne (tgt := 39) hx hb dX6_readMove_34 (by decide) (by decide) (fun c34 => ?_) (fun c34 => ?_)
          · exact absurd c34 (by decide)
          · skip
            refine g_iconst hx hb dX6_readMove_37 ?_
            obtain ⟨ho292, ho293, ho294⟩ := id hw167
            have hw295 : rdAt g f158 h T C (↑L : Int) (↑cnt : Int) (↑(a + 1) : Int) nm := ⟨ho292, ho293, ho294⟩
            refine g_zret hx hb hr hlk hK hM dX6_readMove_38 rfl ?_
            have hq9 : (sMo T L a).1 = false ∧ (sMo T L a).2.1 = (a + 1) := by
              unfold sMo plV
              simp only [*, dg, if_true, if_false, ↓reduceIte, decide_true, decide_false, true_and, and_self, not_true_eq_false, not_false_eq_true, decide_eq_true_eq, decide_eq_false_iff_not, and_true]
            refine ⟨by rw [hq9.1]; rfl, ⟨nm, fun hz => ?_, fun hz => ?_⟩, (fun q hq => (o161 (q) (by omega)))⟩
            · rw [hq9.2]
              exact hw295
            · exact absurd (hq9.1.symm.trans hz) (by decide)
    · skip
      refine g_if_eq (tgt := 37) hx hb dX6_readMove_25 (by decide) (by decide) (fun c25 => ?_) (fun c25 => ?_)
      · skip
        refine g_iconst hx hb dX6_readMove_37 ?_
        obtain ⟨ho296, ho297, ho298⟩ := id hw156
        have hw299 : rdAt g f h T C (↑L : Int) (↑cnt : Int) (↑a : Int) nm := ⟨ho296, ho297, ho298⟩
        refine g_zret hx hb hr hlk hK hM dX6_readMove_38 rfl ?_
        have hq9 : (sMo T L a).1 = false ∧ (sMo T L a).2.1 = a := by
          unfold sMo plV
          simp only [*, dg, if_true, if_false, ↓reduceIte, decide_true, decide_false, true_and, and_self, not_true_eq_false, not_false_eq_true, decide_eq_true_eq, decide_eq_false_iff_not, and_true]
        refine ⟨by rw [hq9.1]; rfl, ⟨nm, fun hz => ?_, fun hz => ?_⟩, (fun q hq => rfl)⟩
        · rw [hq9.2]
          exact hw299
        · exact absurd (hq9.1.symm.trans hz) (by decide)
      · exact absurd c25 (by decide)
