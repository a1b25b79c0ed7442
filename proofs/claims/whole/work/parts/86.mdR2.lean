def po_X9_isFaulty (g : gE) (f : gF) (h : Nat) (Z In C T : Nat → Int) (L : Nat) (ra rw9 : Int) : Int32 → gF → Prop := fun r f1 => (∃ N : Nat, rdE T L (-1) N ∧ r = zI 0 ∧ mdO f1 h (zR Z ↑L ↑L 0) ∧ (∃ C1 : Nat → Int, arI g f1 (h + 12) 4 C1) ∧ ∀ q, (q ≠ h ∧ q ≠ h + 12) → f1 q = f q) ∨ (∃ N : Nat, rdE T L (↑(cq T L N).2.1) N ∧ r = zI 1 ∧ (∃ w9 : Int, mdO f1 h (zR Z ↑L ↑(cq T L N).2.1 w9)) ∧ (∃ C1 : Nat → Int, arI g f1 (h + 12) 4 C1) ∧ ∀ q, (q ≠ h ∧ q ≠ h + 12) → f1 q = f q)
set_option maxRecDepth 100000 in
set_option maxHeartbeats 1000000 in
/-- isFaulty -/
theorem c_X9_isFaulty (l : Launch) (g : gE) (b0 n : Nat) (f : gF) (h : Nat) (Z In C T : Nat → Int) (L : Nat) (ra rw9 : Int) (hO : mdO f h (zR Z ↑L ra rw9)) (hrg : b0 ≤ h ∧ h + 13 ≤ b0 + n) (hIn : arI g f (h + 11) 60 In) (hTT : ∀ k, k < L → In k = T k) (hL : L ≤ 60) (htx : txOk T) (hC : arI g f (h + 12) 4 C) : cI l yX9_isFaulty cX9_isFaulty 1 (some .boolean) 4 89 [.ref h] g b0 n f (po_X9_isFaulty g f h Z In C T L ra rw9) := by
  refine gs_i (cc := cX9_isFaulty) (maxL := 1) (ret := (some .boolean)) (by decide) (Nat.le_of_ble_eq_true rfl) ?_
  intro p e0 s m args below meth c ls hx hb hr hml hown hts hlk hK hM hl
  have hl : lv_has ls 1 [(0, .ref h)] := hl
  unfold po_X9_isFaulty
  refine lv_aload_n hx hb dX9_isFaulty_0 rfl (lv_at hl 0 rfl) ?_
  refine g_iconst hx hb dX9_isFaulty_1 ?_
  refine g_put (ci := 11) (v := .int (zI 0)) (ty := .int) (C := RX9) (T := TX9) (N := 24) hx hb hts iU_X9 tyX9 tyX9_ok nmX9 hown hK hM ⟨by omega, by omega⟩ hO rfl 21 (by decide) (hts _ u_1165) (fun _ h9 => h9) rfl (by decide +kernel) rfl rfl (Nat.le_of_ble_eq_true rfl) dX9_isFaulty_2 (fun f1 H locs hM hf3 o2 => ?_)
  have hf3 : f1 (h) = .inr (11, [.int (zI (Z 0)), .ref (h + 1), .ref (h + 2), .ref (h + 3), .ref (h + 4), .ref (h + 5), .ref (h + 6), .ref (h + 7), .ref (h + 8), .int (zI (Z 9)), .int (zI (Z 10)), .int (zI (Z 11)), .int (zI (Z 12)), .int (zI (Z 13)), .int (zI (Z 14)), .int (zI (Z 15)), .int (zI (Z 16)), .ref (h + 9), .ref (h + 10), .ref (h + 11), .int (zI (↑L : Int)), .int (zI 0), .int (zI rw9), .ref (h + 12)]) := hf3
  refine lv_aload_n hx hb dX9_isFaulty_5 rfl (lv_at hl 0 rfl) ?_
  refine g_iconst hx hb dX9_isFaulty_6 ?_
  refine g_put (ci := 11) (v := .int (zI 0)) (ty := .boolean) (C := RX9) (T := TX9) (N := 24) hx hb hts iU_X9 tyX9 tyX9_ok nmX9 hown hK hM ⟨by omega, by omega⟩ hf3 rfl 22 (by decide) (hts _ u_1166) (fun _ h9 => h9) rfl (by decide +kernel) (by decide) (by decide) (Nat.le_of_ble_eq_true rfl) dX9_isFaulty_7 (fun f4 H locs hM hf6 o5 => ?_)
  have hf6 : f4 (h) = .inr (11, [.int (zI (Z 0)), .ref (h + 1), .ref (h + 2), .ref (h + 3), .ref (h + 4), .ref (h + 5), .ref (h + 6), .ref (h + 7), .ref (h + 8), .int (zI (Z 9)), .int (zI (Z 10)), .int (zI (Z 11)), .int (zI (Z 12)), .int (zI (Z 13)), .int (zI (Z 14)), .int (zI (Z 15)), .int (zI (Z 16)), .ref (h + 9), .ref (h + 10), .ref (h + 11), .int (zI (↑L : Int)), .int (zI 0), .int (zI 0), .ref (h + 12)]) := hf6
  refine lv_aload_n hx hb dX9_isFaulty_10 rfl (lv_at hl 0 rfl) ?_
  have hf7 := hIn.kept ((o5 (h + 11) (by omega)).trans (o2 (h + 11) (by omega)))
  have hf8 := hC.kept ((o5 (h + 12) (by omega)).trans (o2 (h + 12) (by omega)))
  have hC9 := c_X9_command l g b0 n f4 h Z In C T L 0 hf6 hrg hf7 hTT hL htx (by omega) hf8
  refine g_callVv (ci := 11) (C := RX9) (T := TX9) (N := 24) (As := []) (rest := []) ⟨hx, hb, hml, hown, hts⟩ hK hM hC9 (cuV (n := 0) hts u_1561 u_1558 u_10 (by decide) u_1560 us_68 ⟨Nat.le_of_ble_eq_true rfl, Nat.le_of_ble_eq_true rfl⟩) ⟨by omega, by omega⟩ hf6 rfl rfl hl.1 rfl (Nat.le_of_ble_eq_true rfl) dX9_isFaulty_11 ⟨Nat.zero_le _, Nat.zero_le _⟩ (fun f10 H locs hM hp11 => ?_)
  rcases hp11 with ⟨hcc12, hm13, ⟨C915, hj15, hcc12a, hcc12b, hcc12c, hcc12d⟩, o14⟩ | ⟨hcc16, hm17, ⟨C919, hj19⟩, o18⟩
  · skip
    have ho20 : f10 h = .inr (11, [.int (zI (Z 0)), .ref (h + 1), .ref (h + 2), .ref (h + 3), .ref (h + 4), .ref (h + 5), .ref (h + 6), .ref (h + 7), .ref (h + 8), .int (zI (Z 9)), .int (zI (Z 10)), .int (zI (Z 11)), .int (zI (Z 12)), .int (zI (Z 13)), .int (zI (Z 14)), .int (zI (Z 15)), .int (zI (Z 16)), .ref (h + 9), .ref (h + 10), .ref (h + 11), .int (zI (↑L : Int)), .int (zI (↑(sCmd T L 0).2.1 : Int)), .int (zI 0), .ref (h + 12)]) := hm13
    have lp14 : ∀ (k : Nat), ∀ (N : Nat) (w1 : Int) (C1 : Nat → Int) (fL : gF) (H : Heap) (locs : List Loc) (ls : Array Slot), (61 - N < k) → (chn T L N) → ((w1 = 0 ∧ (cq T L N).1 = true) ∨ (w1 = 1 ∧ (cq T L N).1 = false)) → (∀ q, (q ≠ h ∧ q ≠ h + 12) → fL q = f q) → gH g b0 n fL s.heap H locs → (mdO fL h (zR Z ↑L ↑(cq T L N).2.1 w1)) → (arI g fL (h + 11) 60 In) → (arI g fL (h + 12) 4 C1) → lv_has ls 1 [(0, .ref h)] → W p l e0 { frames := 4, cells := 0, slots := 0, locals := 89 } s m args below meth c H locs 0 0 (MQ below (va_Qi (po_X9_isFaulty g f h Z In C T L ra rw9) (gB g b0 n) (gA b0)) args s 0 0 (gA b0)) (F0 m 14 ls []) := by
      intro k
      induction k with
      | zero =>
        intro N w1 C1 fL H locs ls hk hch hw hfr hM hL0 hL1 hL2 hl
        exact absurd hk (Nat.not_lt_zero _)
      | succ k ih14 =>
        intro N w1 C1 fL H locs ls hk hch hw hfr hM hL0 hL1 hL2 hl
        have hpL : (cq T L N).2.1 ≤ L := (chn_in hL hch).1.2.1
        refine lv_aload_n hx hb dX9_isFaulty_14 rfl (lv_at hl 0 rfl) ?_
        have hC21 := c_X9_sign l g b0 n fL h Z In T L (cq T L N).2.1 w1 hL0 hrg hL1 hTT hL htx hpL (by rcases hw with q | q; exact Or.inl q.1; exact Or.inr q.1)
        refine g_callVi (ci := 11) (C := RX9) (T := TX9) (N := 24) (As := []) (rest := []) ⟨hx, hb, hml, hown, hts⟩ hK hM hC21 (cuV (n := 0) hts u_1565 u_1562 u_10 (by decide) u_1564 us_69 ⟨Nat.le_of_ble_eq_true rfl, Nat.le_of_ble_eq_true rfl⟩) ⟨by omega, by omega⟩ hL0 rfl rfl hl.1 rfl (Nat.le_of_ble_eq_true rfl) dX9_isFaulty_15 ⟨Nat.zero_le _, Nat.zero_le _⟩ (fun r15 f22 H locs hM hp23 => ?_)
        obtain ⟨rfl, rfl⟩ := hp23
        rcases hw with ⟨rfl, hq0⟩ | ⟨rfl, hq0⟩
        · skip
          rw [if_pos rfl]
          have hnx9 := nx_in (T := T) (L := L) (a := (cq T L N).2.1) htx
          refine g_bipush hx hb dX9_isFaulty_18 (by decide) ?_
          refine g_icmp_ne (tgt := 40) hx hb dX9_isFaulty_20 (by decide) ⟨by omega, by omega⟩ (by decide) (fun c20 => ?_) (fun c20 => ?_)
          · skip
            refine lv_aload_n hx hb dX9_isFaulty_40 rfl (lv_at hl 0 rfl) ?_
            refine g_get (ci := 11) (v := .int (zI 0)) (C := RX9) (T := TX9) (N := 24) hx hb hts iU_X9 hown hK hM ⟨by omega, by omega⟩ hL0 rfl 22 (by decide) (hts _ u_1166) (fun _ h9 => h9) rfl dX9_isFaulty_41 ?_
            refine g_if_ne (tgt := 58) hx hb dX9_isFaulty_44 (by decide) (by decide) (fun c44 => ?_) (fun c44 => ?_)
            · exact absurd c44 (by decide)
            · skip
              refine lv_aload_n hx hb dX9_isFaulty_47 rfl (lv_at hl 0 rfl) ?_
              refine g_get (ci := 11) (v := .int (zI (↑(cq T L N).2.1 : Int))) (C := RX9) (T := TX9) (N := 24) hx hb hts iU_X9 hown hK hM ⟨by omega, by omega⟩ hL0 rfl 21 (by decide) (hts _ u_1165) (fun _ h9 => h9) rfl dX9_isFaulty_48 ?_
              refine lv_aload_n hx hb dX9_isFaulty_51 rfl (lv_at hl 0 rfl) ?_
              refine g_get (ci := 11) (v := .int (zI (↑L : Int))) (C := RX9) (T := TX9) (N := 24) hx hb hts iU_X9 hown hK hM ⟨by omega, by omega⟩ hL0 rfl 20 (by decide) (hts _ u_1164) (fun _ h9 => h9) rfl dX9_isFaulty_52 ?_
              refine g_icmp_ge (tgt := 62) hx hb dX9_isFaulty_55 (by decide) ⟨by omega, by omega⟩ ⟨by omega, by omega⟩ (fun c55 => ?_) (fun c55 => ?_)
              · skip
                refine g_iconst hx hb dX9_isFaulty_62 ?_
                refine g_zret hx hb hr hlk hK hM dX9_isFaulty_63 rfl ?_
                have hpe : (cq T L N).2.1 = L := by omega
                have hob9 : mdO fL h (zR Z ↑L ↑(cq T L N).2.1 0) := hL0
                rw [hpe] at hob9
                exact Or.inl ⟨N, ⟨hch, Or.inl ⟨hq0, by omega, rfl⟩⟩, rfl, hob9, ⟨_, hL2⟩, (fun q hq => (hfr (q) (by omega)))⟩
              · skip
                refine g_iconst hx hb dX9_isFaulty_58 ?_
                refine lv_goto (tgt := 63) hx hb dX9_isFaulty_59 (by decide) ?_
                refine g_zret hx hb hr hlk hK hM dX9_isFaulty_63 rfl ?_
                exact Or.inr ⟨N, ⟨hch, Or.inr ⟨Or.inr ⟨by omega, by omega⟩, rfl⟩⟩, rfl, ⟨0, hL0⟩, ⟨_, hL2⟩, (fun q hq => (hfr (q) (by omega)))⟩
          · skip
            have hch8 := chn_up hch hq0 (by omega)
            have hlt8 := nx_lt (T := T) (L := L) (a := (cq T L N).2.1) (by omega)
            refine lv_aload_n hx hb dX9_isFaulty_23 rfl (lv_at hl 0 rfl) ?_
            refine lv_dup hx hb dX9_isFaulty_24 rfl ?_
            refine g_get (ci := 11) (v := .int (zI (↑(cq T L N).2.1 : Int))) (C := RX9) (T := TX9) (N := 24) hx hb hts iU_X9 hown hK hM ⟨by omega, by omega⟩ hL0 rfl 21 (by decide) (hts _ u_1165) (fun _ h9 => h9) rfl dX9_isFaulty_25 ?_
            refine g_iconst hx hb dX9_isFaulty_28 ?_
            refine g_iadd hx hb dX9_isFaulty_29 ?_
            refine g_put (ci := 11) (v := .int (zI ((↑(cq T L N).2.1 : Int) + 1))) (ty := .int) (C := RX9) (T := TX9) (N := 24) hx hb hts iU_X9 tyX9 tyX9_ok nmX9 hown hK hM ⟨by omega, by omega⟩ hL0 rfl 21 (by decide) (hts _ u_1165) (fun _ h9 => h9) rfl (by decide +kernel) rfl rfl (Nat.le_of_ble_eq_true rfl) dX9_isFaulty_30 (fun f24 H locs hM hf26 o25 => ?_)
            have hf26 : f24 (h) = .inr (11, [.int (zI (Z 0)), .ref (h + 1), .ref (h + 2), .ref (h + 3), .ref (h + 4), .ref (h + 5), .ref (h + 6), .ref (h + 7), .ref (h + 8), .int (zI (Z 9)), .int (zI (Z 10)), .int (zI (Z 11)), .int (zI (Z 12)), .int (zI (Z 13)), .int (zI (Z 14)), .int (zI (Z 15)), .int (zI (Z 16)), .ref (h + 9), .ref (h + 10), .ref (h + 11), .int (zI (↑L : Int)), .int (zI ((↑(cq T L N).2.1 : Int) + 1)), .int (zI 0), .ref (h + 12)]) := hf26
            refine lv_aload_n hx hb dX9_isFaulty_33 rfl (lv_at hl 0 rfl) ?_
            have hf27 := hL1.kept (o25 (h + 11) (by omega))
            have hf28 := hL2.kept (o25 (h + 12) (by omega))
            have hC29 := c_X9_command l g b0 n f24 h Z In C1 T L (((cq T L N).2.1) + 1) hf26 hrg hf27 hTT hL htx (by omega) hf28
            refine g_callVv (ci := 11) (C := RX9) (T := TX9) (N := 24) (As := []) (rest := []) ⟨hx, hb, hml, hown, hts⟩ hK hM hC29 (cuV (n := 0) hts u_1561 u_1558 u_10 (by decide) u_1560 us_68 ⟨Nat.le_of_ble_eq_true rfl, Nat.le_of_ble_eq_true rfl⟩) ⟨by omega, by omega⟩ hf26 rfl rfl hl.1 rfl (Nat.le_of_ble_eq_true rfl) dX9_isFaulty_34 ⟨Nat.zero_le _, Nat.zero_le _⟩ (fun f30 H locs hM hp31 => ?_)
            rcases hp31 with ⟨hcc32, hm33, ⟨C935, hj35, hcc32a, hcc32b, hcc32c, hcc32d⟩, o34⟩ | ⟨hcc36, hm37, ⟨C939, hj39⟩, o38⟩
            · skip
              have ho40 : f30 h = .inr (11, [.int (zI (Z 0)), .ref (h + 1), .ref (h + 2), .ref (h + 3), .ref (h + 4), .ref (h + 5), .ref (h + 6), .ref (h + 7), .ref (h + 8), .int (zI (Z 9)), .int (zI (Z 10)), .int (zI (Z 11)), .int (zI (Z 12)), .int (zI (Z 13)), .int (zI (Z 14)), .int (zI (Z 15)), .int (zI (Z 16)), .ref (h + 9), .ref (h + 10), .ref (h + 11), .int (zI (↑L : Int)), .int (zI (↑(sCmd T L (((cq T L N).2.1) + 1)).2.1 : Int)), .int (zI 0), .ref (h + 12)]) := hm33
              refine lv_goto (tgt := 14) hx hb dX9_isFaulty_37 (by decide) ?_
              have hf41 := hf27.kept (o34 (h + 11) (by omega))
              exact ih14 (N + 1) 0 _ f30 _ _ _ (by have hp8 := chn_pos hL hch8; omega) hch8 (Or.inl ⟨rfl, hcc32⟩) (fun q hq => ((o34 (q) (by omega)).trans ((o25 (q) (by omega)).trans (hfr (q) (by omega))))) hM ho40 hf41 hj35 (lv_sub hl [0] rfl)
            · skip
              have ho42 : f30 h = .inr (11, [.int (zI (Z 0)), .ref (h + 1), .ref (h + 2), .ref (h + 3), .ref (h + 4), .ref (h + 5), .ref (h + 6), .ref (h + 7), .ref (h + 8), .int (zI (Z 9)), .int (zI (Z 10)), .int (zI (Z 11)), .int (zI (Z 12)), .int (zI (Z 13)), .int (zI (Z 14)), .int (zI (Z 15)), .int (zI (Z 16)), .ref (h + 9), .ref (h + 10), .ref (h + 11), .int (zI (↑L : Int)), .int (zI (↑(sCmd T L (((cq T L N).2.1) + 1)).2.1 : Int)), .int (zI 1), .ref (h + 12)]) := hm37
              refine lv_goto (tgt := 14) hx hb dX9_isFaulty_37 (by decide) ?_
              have hf43 := hf27.kept (o38 (h + 11) (by omega))
              exact ih14 (N + 1) 1 _ f30 _ _ _ (by have hp8 := chn_pos hL hch8; omega) hch8 (Or.inr ⟨rfl, hcc36⟩) (fun q hq => ((o38 (q) (by omega)).trans ((o25 (q) (by omega)).trans (hfr (q) (by omega))))) hM ho42 hf43 hj39 (lv_sub hl [0] rfl)
        · skip
          rw [if_neg (by decide)]
          refine g_bipush hx hb dX9_isFaulty_18 (by decide) ?_
          refine g_icmp_ne (tgt := 40) hx hb dX9_isFaulty_20 (by decide) (by decide) (by decide) (fun c20 => ?_) (fun c20 => ?_)
          · skip
            refine lv_aload_n hx hb dX9_isFaulty_40 rfl (lv_at hl 0 rfl) ?_
            refine g_get (ci := 11) (v := .int (zI 1)) (C := RX9) (T := TX9) (N := 24) hx hb hts iU_X9 hown hK hM ⟨by omega, by omega⟩ hL0 rfl 22 (by decide) (hts _ u_1166) (fun _ h9 => h9) rfl dX9_isFaulty_41 ?_
            refine g_if_ne (tgt := 58) hx hb dX9_isFaulty_44 (by decide) (by decide) (fun c44 => ?_) (fun c44 => ?_)
            · skip
              refine g_iconst hx hb dX9_isFaulty_58 ?_
              refine lv_goto (tgt := 63) hx hb dX9_isFaulty_59 (by decide) ?_
              refine g_zret hx hb hr hlk hK hM dX9_isFaulty_63 rfl ?_
              exact Or.inr ⟨N, ⟨hch, Or.inr ⟨Or.inl hq0, rfl⟩⟩, rfl, ⟨1, hL0⟩, ⟨_, hL2⟩, (fun q hq => (hfr (q) (by omega)))⟩
            · exact absurd c44 (by decide)
          · exact absurd c20 (by decide)
    have hf44 := hf7.kept (o14 (h + 11) (by omega))
    exact lp14 (62) 0 0 _ f10 _ _ _ (by omega) (fun j hj => absurd hj (Nat.not_lt_zero _)) (Or.inl ⟨rfl, hcc12⟩) (fun q hq => ((o14 (q) (by omega)).trans ((o5 (q) (by omega)).trans (o2 (q) (by omega))))) hM ho20 hf44 hj15 (lv_sub hl [0] rfl)
  · skip
    have ho45 : f10 h = .inr (11, [.int (zI (Z 0)), .ref (h + 1), .ref (h + 2), .ref (h + 3), .ref (h + 4), .ref (h + 5), .ref (h + 6), .ref (h + 7), .ref (h + 8), .int (zI (Z 9)), .int (zI (Z 10)), .int (zI (Z 11)), .int (zI (Z 12)), .int (zI (Z 13)), .int (zI (Z 14)), .int (zI (Z 15)), .int (zI (Z 16)), .ref (h + 9), .ref (h + 10), .ref (h + 11), .int (zI (↑L : Int)), .int (zI (↑(sCmd T L 0).2.1 : Int)), .int (zI 1), .ref (h + 12)]) := hm17
    have lp14 : ∀ (k : Nat), ∀ (N : Nat) (w1 : Int) (C1 : Nat → Int) (fL : gF) (H : Heap) (locs : List Loc) (ls : Array Slot), (61 - N < k) → (chn T L N) → ((w1 = 0 ∧ (cq T L N).1 = true) ∨ (w1 = 1 ∧ (cq T L N).1 = false)) → (∀ q, (q ≠ h ∧ q ≠ h + 12) → fL q = f q) → gH g b0 n fL s.heap H locs → (mdO fL h (zR Z ↑L ↑(cq T L N).2.1 w1)) → (arI g fL (h + 11) 60 In) → (arI g fL (h + 12) 4 C1) → lv_has ls 1 [(0, .ref h)] → W p l e0 { frames := 4, cells := 0, slots := 0, locals := 89 } s m args below meth c H locs 0 0 (MQ below (va_Qi (po_X9_isFaulty g f h Z In C T L ra rw9) (gB g b0 n) (gA b0)) args s 0 0 (gA b0)) (F0 m 14 ls []) := by
      intro k
      induction k with
      | zero =>
        intro N w1 C1 fL H locs ls hk hch hw hfr hM hL0 hL1 hL2 hl
        exact absurd hk (Nat.not_lt_zero _)
      | succ k ih14 =>
        intro N w1 C1 fL H locs ls hk hch hw hfr hM hL0 hL1 hL2 hl
        have hpL : (cq T L N).2.1 ≤ L := (chn_in hL hch).1.2.1
        refine lv_aload_n hx hb dX9_isFaulty_14 rfl (lv_at hl 0 rfl) ?_
        have hC46 := c_X9_sign l g b0 n fL h Z In T L (cq T L N).2.1 w1 hL0 hrg hL1 hTT hL htx hpL (by rcases hw with q | q; exact Or.inl q.1; exact Or.inr q.1)
        refine g_callVi (ci := 11) (C := RX9) (T := TX9) (N := 24) (As := []) (rest := []) ⟨hx, hb, hml, hown, hts⟩ hK hM hC46 (cuV (n := 0) hts u_1565 u_1562 u_10 (by decide) u_1564 us_69 ⟨Nat.le_of_ble_eq_true rfl, Nat.le_of_ble_eq_true rfl⟩) ⟨by omega, by omega⟩ hL0 rfl rfl hl.1 rfl (Nat.le_of_ble_eq_true rfl) dX9_isFaulty_15 ⟨Nat.zero_le _, Nat.zero_le _⟩ (fun r15 f47 H locs hM hp48 => ?_)
        obtain ⟨rfl, rfl⟩ := hp48
        rcases hw with ⟨rfl, hq0⟩ | ⟨rfl, hq0⟩
        · skip
          rw [if_pos rfl]
          have hnx9 := nx_in (T := T) (L := L) (a := (cq T L N).2.1) htx
          refine g_bipush hx hb dX9_isFaulty_18 (by decide) ?_
          refine g_icmp_ne (tgt := 40) hx hb dX9_isFaulty_20 (by decide) ⟨by omega, by omega⟩ (by decide) (fun c20 => ?_) (fun c20 => ?_)
          · skip
            refine lv_aload_n hx hb dX9_isFaulty_40 rfl (lv_at hl 0 rfl) ?_
            refine g_get (ci := 11) (v := .int (zI 0)) (C := RX9) (T := TX9) (N := 24) hx hb hts iU_X9 hown hK hM ⟨by omega, by omega⟩ hL0 rfl 22 (by decide) (hts _ u_1166) (fun _ h9 => h9) rfl dX9_isFaulty_41 ?_
            refine g_if_ne (tgt := 58) hx hb dX9_isFaulty_44 (by decide) (by decide) (fun c44 => ?_) (fun c44 => ?_)
            · exact absurd c44 (by decide)
            · skip
              refine lv_aload_n hx hb dX9_isFaulty_47 rfl (lv_at hl 0 rfl) ?_
              refine g_get (ci := 11) (v := .int (zI (↑(cq T L N).2.1 : Int))) (C := RX9) (T := TX9) (N := 24) hx hb hts iU_X9 hown hK hM ⟨by omega, by omega⟩ hL0 rfl 21 (by decide) (hts _ u_1165) (fun _ h9 => h9) rfl dX9_isFaulty_48 ?_
              refine lv_aload_n hx hb dX9_isFaulty_51 rfl (lv_at hl 0 rfl) ?_
              refine g_get (ci := 11) (v := .int (zI (↑L : Int))) (C := RX9) (T := TX9) (N := 24) hx hb hts iU_X9 hown hK hM ⟨by omega, by omega⟩ hL0 rfl 20 (by decide) (hts _ u_1164) (fun _ h9 => h9) rfl dX9_isFaulty_52 ?_
              refine g_icmp_ge (tgt := 62) hx hb dX9_isFaulty_55 (by decide) ⟨by omega, by omega⟩ ⟨by omega, by omega⟩ (fun c55 => ?_) (fun c55 => ?_)
              · skip
                refine g_iconst hx hb dX9_isFaulty_62 ?_
                refine g_zret hx hb hr hlk hK hM dX9_isFaulty_63 rfl ?_
                have hpe : (cq T L N).2.1 = L := by omega
                have hob9 : mdO fL h (zR Z ↑L ↑(cq T L N).2.1 0) := hL0
                rw [hpe] at hob9
                exact Or.inl ⟨N, ⟨hch, Or.inl ⟨hq0, by omega, rfl⟩⟩, rfl, hob9, ⟨_, hL2⟩, (fun q hq => (hfr (q) (by omega)))⟩
              · skip
                refine g_iconst hx hb dX9_isFaulty_58 ?_
                refine lv_goto (tgt := 63) hx hb dX9_isFaulty_59 (by decide) ?_
                refine g_zret hx hb hr hlk hK hM dX9_isFaulty_63 rfl ?_
                exact Or.inr ⟨N, ⟨hch, Or.inr ⟨Or.inr ⟨by omega, by omega⟩, rfl⟩⟩, rfl, ⟨0, hL0⟩, ⟨_, hL2⟩, (fun q hq => (hfr (q) (by omega)))⟩
          · skip
            have hch8 := chn_up hch hq0 (by omega)
            have hlt8 := nx_lt (T := T) (L := L) (a := (cq T L N).2.1) (by omega)
            refine lv_aload_n hx hb dX9_isFaulty_23 rfl (lv_at hl 0 rfl) ?_
            refine lv_dup hx hb dX9_isFaulty_24 rfl ?_
            refine g_get (ci := 11) (v := .int (zI (↑(cq T L N).2.1 : Int))) (C := RX9) (T := TX9) (N := 24) hx hb hts iU_X9 hown hK hM ⟨by omega, by omega⟩ hL0 rfl 21 (by decide) (hts _ u_1165) (fun _ h9 => h9) rfl dX9_isFaulty_25 ?_
            refine g_iconst hx hb dX9_isFaulty_28 ?_
            refine g_iadd hx hb dX9_isFaulty_29 ?_
            refine g_put (ci := 11) (v := .int (zI ((↑(cq T L N).2.1 : Int) + 1))) (ty := .int) (C := RX9) (T := TX9) (N := 24) hx hb hts iU_X9 tyX9 tyX9_ok nmX9 hown hK hM ⟨by omega, by omega⟩ hL0 rfl 21 (by decide) (hts _ u_1165) (fun _ h9 => h9) rfl (by decide +kernel) rfl rfl (Nat.le_of_ble_eq_true rfl) dX9_isFaulty_30 (fun f49 H locs hM hf51 o50 => ?_)
            have hf51 : f49 (h) = .inr (11, [.int (zI (Z 0)), .ref (h + 1), .ref (h + 2), .ref (h + 3), .ref (h + 4), .ref (h + 5), .ref (h + 6), .ref (h + 7), .ref (h + 8), .int (zI (Z 9)), .int (zI (Z 10)), .int (zI (Z 11)), .int (zI (Z 12)), .int (zI (Z 13)), .int (zI (Z 14)), .int (zI (Z 15)), .int (zI (Z 16)), .ref (h + 9), .ref (h + 10), .ref (h + 11), .int (zI (↑L : Int)), .int (zI ((↑(cq T L N).2.1 : Int) + 1)), .int (zI 0), .ref (h + 12)]) := hf51
            refine lv_aload_n hx hb dX9_isFaulty_33 rfl (lv_at hl 0 rfl) ?_
            have hf52 := hL1.kept (o50 (h + 11) (by omega))
            have hf53 := hL2.kept (o50 (h + 12) (by omega))
            have hC54 := c_X9_command l g b0 n f49 h Z In C1 T L (((cq T L N).2.1) + 1) hf51 hrg hf52 hTT hL htx (by omega) hf53
            refine g_callVv (ci := 11) (C := RX9) (T := TX9) (N := 24) (As := []) (rest := []) ⟨hx, hb, hml, hown, hts⟩ hK hM hC54 (cuV (n := 0) hts u_1561 u_1558 u_10 (by decide) u_1560 us_68 ⟨Nat.le_of_ble_eq_true rfl, Nat.le_of_ble_eq_true rfl⟩) ⟨by omega, by omega⟩ hf51 rfl rfl hl.1 rfl (Nat.le_of_ble_eq_true rfl) dX9_isFaulty_34 ⟨Nat.zero_le _, Nat.zero_le _⟩ (fun f55 H locs hM hp56 => ?_)
            rcases hp56 with ⟨hcc57, hm58, ⟨C960, hj60, hcc57a, hcc57b, hcc57c, hcc57d⟩, o59⟩ | ⟨hcc61, hm62, ⟨C964, hj64⟩, o63⟩
            · skip
              have ho65 : f55 h = .inr (11, [.int (zI (Z 0)), .ref (h + 1), .ref (h + 2), .ref (h + 3), .ref (h + 4), .ref (h + 5), .ref (h + 6), .ref (h + 7), .ref (h + 8), .int (zI (Z 9)), .int (zI (Z 10)), .int (zI (Z 11)), .int (zI (Z 12)), .int (zI (Z 13)), .int (zI (Z 14)), .int (zI (Z 15)), .int (zI (Z 16)), .ref (h + 9), .ref (h + 10), .ref (h + 11), .int (zI (↑L : Int)), .int (zI (↑(sCmd T L (((cq T L N).2.1) + 1)).2.1 : Int)), .int (zI 0), .ref (h + 12)]) := hm58
              refine lv_goto (tgt := 14) hx hb dX9_isFaulty_37 (by decide) ?_
              have hf66 := hf52.kept (o59 (h + 11) (by omega))
              exact ih14 (N + 1) 0 _ f55 _ _ _ (by have hp8 := chn_pos hL hch8; omega) hch8 (Or.inl ⟨rfl, hcc57⟩) (fun q hq => ((o59 (q) (by omega)).trans ((o50 (q) (by omega)).trans (hfr (q) (by omega))))) hM ho65 hf66 hj60 (lv_sub hl [0] rfl)
            · skip
              have ho67 : f55 h = .inr (11, [.int (zI (Z 0)), .ref (h + 1), .ref (h + 2), .ref (h + 3), .ref (h + 4), .ref (h + 5), .ref (h + 6), .ref (h + 7), .ref (h + 8), .int (zI (Z 9)), .int (zI (Z 10)), .int (zI (Z 11)), .int (zI (Z 12)), .int (zI (Z 13)), .int (zI (Z 14)), .int (zI (Z 15)), .int (zI (Z 16)), .ref (h + 9), .ref (h + 10), .ref (h + 11), .int (zI (↑L : Int)), .int (zI (↑(sCmd T L (((cq T L N).2.1) + 1)).2.1 : Int)), .int (zI 1), .ref (h + 12)]) := hm62
              refine lv_goto (tgt := 14) hx hb dX9_isFaulty_37 (by decide) ?_
              have hf68 := hf52.kept (o63 (h + 11) (by omega))
              exact ih14 (N + 1) 1 _ f55 _ _ _ (by have hp8 := chn_pos hL hch8; omega) hch8 (Or.inr ⟨rfl, hcc61⟩) (fun q hq => ((o63 (q) (by omega)).trans ((o50 (q) (by omega)).trans (hfr (q) (by omega))))) hM ho67 hf68 hj64 (lv_sub hl [0] rfl)
        · skip
          rw [if_neg (by decide)]
          refine g_bipush hx hb dX9_isFaulty_18 (by decide) ?_
          refine g_icmp_ne (tgt := 40) hx hb dX9_isFaulty_20 (by decide) (by decide) (by decide) (fun c20 => ?_) (fun c20 => ?_)
          · skip
            refine lv_aload_n hx hb dX9_isFaulty_40 rfl (lv_at hl 0 rfl) ?_
            refine g_get (ci := 11) (v := .int (zI 1)) (C := RX9) (T := TX9) (N := 24) hx hb hts iU_X9 hown hK hM ⟨by omega, by omega⟩ hL0 rfl 22 (by decide) (hts _ u_1166) (fun _ h9 => h9) rfl dX9_isFaulty_41 ?_
            refine g_if_ne (tgt := 58) hx hb dX9_isFaulty_44 (by decide) (by decide) (fun c44 => ?_) (fun c44 => ?_)
            · skip
              refine g_iconst hx hb dX9_isFaulty_58 ?_
              refine lv_goto (tgt := 63) hx hb dX9_isFaulty_59 (by decide) ?_
              refine g_zret hx hb hr hlk hK hM dX9_isFaulty_63 rfl ?_
              exact Or.inr ⟨N, ⟨hch, Or.inr ⟨Or.inl hq0, rfl⟩⟩, rfl, ⟨1, hL0⟩, ⟨_, hL2⟩, (fun q hq => (hfr (q) (by omega)))⟩
            · exact absurd c44 (by decide)
          · exact absurd c20 (by decide)
    have hf69 := hf7.kept (o18 (h + 11) (by omega))
    exact lp14 (62) 0 1 _ f10 _ _ _ (by omega) (fun j hj => absurd hj (Nat.not_lt_zero _)) (Or.inr ⟨rfl, hcc16⟩) (fun q hq => ((o18 (q) (by omega)).trans ((o5 (q) (by omega)).trans (o2 (q) (by omega))))) hM ho45 hf69 hj19 (lv_sub hl [0] rfl)
