def po_X9_isFaulty (g : gE) (f : gF) (h : Nat) (Z In C T : Nat → Int) (L : Nat) (ra rw9 : Int) : Int32 → gF → Prop := fun r f1 => (∃ N : Nat, rdE T L (-1) N ∧ r = zI 0 ∧ mdO f1 h (zR Z ↑L ↑L 0) ∧ (∃ C1 : Nat → Int, arI g f1 (h + 12) 4 C1) ∧ ∀ q, (q ≠ h ∧ q ≠ h + 12) → f1 q = f q) ∨ (∃ N : Nat, rdE T L (↑(cq T L N).2.1) N ∧ r = zI 1 ∧ (∃ w9 : Int, mdO f1 h (zR Z ↑L ↑(cq T L N).2.1 w9)) ∧ (∃ C1 : Nat → Int, arI g f1 (h + 12) 4 C1) ∧ ∀ q, (q ≠ h ∧ q ≠ h + 12) → f1 q = f q)
set_option maxRecDepth 100000 in
set_option maxHeartbeats 1000000 in
/-- isFaulty -/
theorem c_X9_isFaulty (l : Launch) (g : gE) (b0 n : Nat) (f : gF) (h : Nat) (Z In C T : Nat → Int) (L : Nat) (ra rw9 : Int) (hO : mdO f h (zR Z ↑L ra rw9)) (hrg : b0 ≤ h ∧ h + 13 ≤ b0 + n) (hIn : arI g f (h + 11) 60 In) (hTT : ∀ k, k < L → In k = T k) (hL : L ≤ 60) (htx : txOk T) (hC : arI g f (h + 12) 4 C) : cI l yX9_isFaulty cX9_isFaulty 1 (some .boolean) 4 89 [.ref h] g b0 n f (po_X9_isFaulty g f h Z In C T L ra rw9) := by
  refine gs_i (cc := cX9_isFaulty) (maxL := 1) (ret := (some .boolean)) (by decide) (Nat.le_of_ble_eq_true rfl) ?_
  intro p e0 s m args below meth c ls hx hb hr hml hown hts hlk hK hM hl
  have hl : lv_has ls 1 [(0, .ref h)] := hl
  unfold po_X9_isFaulty
  refine lv_aload_n hx hb dX9_isFaulty_0 rfl (lv_at hl 0 rfl) ?_
  refine g_iconst hx hb dX9_isFaulty_1 ?_
  refine g_put (ci := 11) (v := .int (zI 0)) (ty := .int) (C := RX9) (T := TX9) (N := 24) hx hb hts iU_X9 tyX9 tyX9_ok nmX9 hown hK hM ⟨by omega, by omega⟩ hO rfl 21 (by decide) (hts _ u_1165) (fun _ h9 => h9) rfl (by decide +kernel) rfl rfl (Nat.le_of_ble_eq_true rfl) dX9_isFaulty_2 (fun f1 H locs hM hf3 o2 => ?_)
  have hf3 : f1 (h) = .inr (11, [.int (zI (Z 0)), .ref (h + 1), .ref (h + 2), .ref (h + 3), .ref (h + 4), .ref (h + 5), .ref (h + 6), .ref (h + 7), .ref (h + 8), .int (zI (Z 9)), .int (zI (Z 10)), .int (zI (Z 11)), .int (zI (Z 12)), .int (zI (Z 13)), .int (zI (Z 14)), .int (zI (Z 15)), .int (zI (Z 16)), .ref (h + 9), .ref (h + 10), .ref (h + 11), .int (zI (↑L : Int)), .int (zI 0), .int (zI rw9), .ref (h + 12)]) := hf3
  refine lv_aload_n hx hb dX9_isFaulty_5 rfl (lv_at hl 0 rfl) ?_
  refine g_iconst hx hb dX9_isFaulty_6 ?_
  refine g_put (ci := 11) (v := .int (zI 0)) (ty := .boolean) (C := RX9) (T := TX9) (N := 24) hx hb hts iU_X9 tyX9 tyX9_ok nmX9 hown hK hM ⟨by omega, by omega⟩ hf3 rfl 22 (by decide) (hts _ u_1166) (fun _ h9 => h9) rfl (by decide +kernel) (by decide) (by decide) (Nat.le_of_ble_eq_true rfl) dX9_isFaulty_7 (fun f4 H locs hM hf6 o5 => ?_)
  have hf6 : f4 (h) = .inr (11, [.int (zI (Z 0)), .ref (h + 1), .ref (h + 2), .ref (h + 3), .ref (h + 4), .ref (h + 5), .ref (h + 6), .ref (h + 7), .ref (h + 8), .int (zI (Z 9)), .int (zI (Z 10)), .int (zI (Z 11)), .int (zI (Z 12)), .int (zI (Z 13)), .int (zI (Z 14)), .int (zI (Z 15)), .int (zI (Z 16)), .ref (h + 9), .ref (h + 10), .ref (h + 11), .int (zI (↑L : Int)), .int (zI 0), .int (zI 0), .ref (h + 12)]) := hf6
  refine lv_aload_n hx hb dX9_isFaulty_10 rfl (lv_at hl 0 rfl) ?_
  have hf7 := hIn.kept ((o5 (h + 11) (by omega)).trans (o2 (h + 11) (by omega)))
  have hf8 := hC.kept ((o5 (h + 12) (by omega)).trans (o2 (h + 12) (by omega)))
  have hC9 := c_X9_command l g b0 n f4 h Z In C T L 0 hf6 hrg hf7 hTT hL htx (by omega) hf8
  refine g_callVv (ci := 11) (C := RX9) (T := TX9) (N := 24) (As := []) (rest := []) ⟨hx, hb, hml, hown, hts⟩ hK hM hC9 (cuV (n := 0) hts u_1561 u_1558 u_10 (by decide) u_1560 us_68 ⟨Nat.le_of_ble_eq_true rfl, Nat.le_of_ble_eq_true rfl⟩) ⟨by omega, by omega⟩ hf6 rfl rfl hl.1 rfl (Nat.le_of_ble_eq_true rfl) dX9_isFaulty_11 ⟨Nat.zero_le _, Nat.zero_le _⟩ (fun f10 H locs hM hp11 => ?_)
  rcases hp11 with ⟨hcc12, hm13, ⟨C915, hj15, hcc12a, hcc12b, hcc12c, hcc12d⟩, o14⟩ | ⟨hcc16, hm17, ⟨C919, hj19⟩, o18⟩
  · skip
    have ho20 : f10 h = .inr (11, [.int (zI (Z 0)), .ref (h + 1), .ref (h + 2), .ref (h + 3), .ref (h + 4), .ref (h + 5), .ref (h + 6), .ref (h + 7), .ref (h + 8), .int (zI (Z 9)), .int (zI (Z 10)), .int (zI (Z 11)), .int (zI (Z 12)), .int (zI (Z 13)), .int (zI (Z 14)), .int (zI (Z 15)), .int (zI (Z 16)), .ref (h + 9), .ref (h + 10), .ref (h + 11), .int (zI (↑L : Int)), .int (zI (↑(sCmd T L 0).2.1 : Int)), .int (zI 0), .ref (h + 12)]) := hm13
    have lp14 : ∀ (k : Nat), ∀ (N : Nat) (w1 : Int) (C1 : Nat → Int) (fL : gF) (H : Heap) (locs : List Loc) (ls : Array Slot), (61 - N < k) → (chn T L N) → ((w1 = 0 ∧ (cq T L N).1 = true) ∨ (w1 = 1 ∧ (cq T L N).1 = false)) → (∀ q, (q ≠ h ∧ q ≠ h + 12) → fL q = f q) → gH g b0 n fL s.heap H locs → (mdO fL h (zR Z ↑L ↑(cq T L N).2.1 w1)) → (arI g fL (h + 11) 60 In) → (arI g fL (h + 12) 4 C1) → lv_has ls 1 [(0, .ref h)] → W p l e0 { frames := 4, cells := 0, slots := 0, locals := 89 } s m args below meth c H locs 0 0 (MQ below (va_Qi (po_X9_isFaulty g f h Z In C T L ra rw9) (gB g b0 n) (gA b0)) args s 0 0 (gA b0)) (F0 m 14 ls []) := by
      intro k
      induction k with
      | zero =>
        intro N w1 C1 fL H locs ls hk hch hw hfr hM hL0 hL1 hL2 hl
        exact absurd hk (Nat.not_lt_zero _)
      | succ k ih14 =>
        intro N w1 C1 fL H locs ls hk hch hw hfr hM hL0 hL1 hL2 hl
        have hpL : (cq T L N).2.1 ≤ L := (chn_in hL hch).1.2.1
        refine lv_aload_n hx hb dX9_isFaulty_14 rfl (lv_at hl 0 rfl) ?_
        have hC21 := c_X9_sign l g b0 n fL h Z In T L (cq T L N).2.1 w1 hL0 hrg hL1 hTT hL htx hpL (by rcases hw with q | q; exact Or.inl q.1; exact Or.inr q.1)
        refine g_callVi (ci := 11) (C := RX9) (T := TX9) (N := 24) (As := []) (rest := []) ⟨hx, hb, hml, hown, hts⟩ hK hM hC21 (cuV (n := 0) hts u_1565 u_1562 u_10 (by decide) u_1564 us_69 ⟨Nat.le_of_ble_eq_true rfl, Nat.le_of_ble_eq_true rfl⟩) ⟨by omega, by omega⟩ hL0 rfl rfl hl.1 rfl (Nat.le_of_ble_eq_true rfl) dX9_isFaulty_15 ⟨Nat.zero_le _, Nat.zero_le _⟩ (fun r15 f22 H locs hM hp23 => ?_)
        obtain ⟨rfl, rfl⟩ := hp23
        rcases hw with ⟨rfl, hq0⟩ | ⟨rfl, hq0⟩
        · skip
          rw [if_pos rfl]
          have hnx9 := nx_in (T := T) (L := L) (a := (cq T L N).2.1) htx
          refine g_bipush hx hb dX9_isFaulty_18 (by decide) ?_
          refine g_icmp_ne (tgt := 40) hx hb dX9_isFaulty_20 (by decide) ⟨by omega, by omega⟩ (by decide) (fun c20 => ?_) (fun c20 => ?_)
          · skip
            refine lv_aload_n hx hb dX9_isFaulty_40 rfl (lv_at hl 0 rfl) ?_
            refine g_get (ci := 11) (v := .int (zI 0)) (C := RX9) (T := TX9) (N := 24) hx hb hts iU_X9 hown hK hM ⟨by omega, by omega⟩ hL0 rfl 22 (by decide) (hts _ u_1166) (fun _ h9 => h9) rfl dX9_isFaulty_41 ?_
            refine g_if_ne (tgt := 58) hx hb dX9_isFaulty_44 (by decide) (by decide) (fun c44 => ?_) (fun c44 => ?_)
            · exact absurd c44 (by decide)
            · skip
              refine lv_aload_n hx hb dX9_isFaulty_47 rfl (lv_at hl 0 rfl) ?_
              refine g_get (ci := 11) (v := .int (zI (↑(cq T L N).2.1 : Int))) (C := RX9) (T := TX9) (N := 24) hx hb hts iU_X9 hown hK hM ⟨by omega, by omega⟩ hL0 rfl 21 (by decide) (hts _ u_1165) (fun _ h9 => h9) rfl dX9_isFaulty_48 ?_
              refine lv_aload_n hx hb dX9_isFaulty_51 rfl (lv_at hl 0 rfl) ?_
              refine g_get (ci := 11) (v := .int (zI (↑L : Int))) (C := RX9) (T := TX9) (N := 24) hx hb hts iU_X9 hown hK hM ⟨by omega, by omega⟩ hL0 rfl 20 (by decide) (hts _ u_1164) (fun _ h9 => h9) rfl dX9_isFaulty_52 ?_
              refine g_icmp_ge (tgt := 62) hx hb dX9_isFaulty_55 (by decide) ⟨by omega, by omega⟩ ⟨by omega, by omega⟩ (fun c55 => ?_) (fun c55 => ?_)
              · skip
                refine g_iconst hx hb dX9_isFaulty_62 ?_
                refine g_zret hx hb hr hlk hK hM dX9_isFaulty_63 rfl ?_
                have hpe : (cq T L N).2.1 = L := by omega
                have hob9 : mdO fL h (zR Z ↑L ↑(cq T L N).2.1 0) := hL0
                rw [hpe] at hob9
                exact Or.inl ⟨N, ⟨hch, Or.inl ⟨hq0, by omega, rfl⟩⟩, rfl, hob9, ⟨_, hL2⟩, (fun q hq => (hfr (q) (by omega)))⟩
              · skip
                refine g_iconst hx hb dX9_isFaulty_58 ?_
                refine lv_goto (tgt := 63) hx hb dX9_isFaulty_59 (by decide) ?_
                refine g_zret hx hb hr hlk hK hM dX9_isFaulty_63 rfl ?_
                exact Or.inr ⟨N, ⟨hch, Or.inr ⟨Or.inr ⟨by omega, by omega⟩, rfl⟩⟩, rfl, ⟨0, hL0⟩, ⟨_, hL2⟩, (fun q hq => (hfr (q) (by omega)))⟩
          · skip
            have hch8 := chn_up hch hq0 (by omega)
            have hlt8 := nx_lt (T := T) (L := L) (a := (cq T L N).2.1) (by omega)
            refine lv_aload_n hx hb dX9_isFaulty_23 rfl (lv_at hl 0 rfl) ?_
            refine lv_dup hx hb dX9_isFaulty_24 rfl ?_
            refine g_get (ci := 11) (v := .int (zI (↑(cq T L N).2.1 : Int))) (C := RX9) (T := TX9) (N := 24) hx hb hts iU_X9 hown hK hM ⟨by omega, by omega⟩ hL0 rfl 21 (by decide) (hts _ u_1165) (fun _ h9 => h9) rfl dX9_isFaulty_25 ?_
            refine g_iconst hx hb dX9_isFaulty_28 ?_
            refine g_iadd hx hb dX9_isFaulty_29 ?_
            refine g_put (ci := 11) (v := .int (zI ((↑(cq T L N).2.1 : Int) + 1))) (ty := .int) (C := RX9) (T := TX9) (N := 24) hx hb hts iU_X9 tyX9 tyX9_ok nmX9 hown hK hM ⟨by omega, by omega⟩ hL0 rfl 21 (by decide) (hts _ u_1165) (fun _ h9 => h9) rfl (by decide +kernel) rfl rfl (Nat.le_of_ble_eq_true rfl) dX9_isFaulty_30 (fun f24 H locs hM hf26 o25 => ?_)
            have hf26 : f24 (h) = .inr (11, [.int (zI (Z 0)), .ref (h + 1), .ref (h + 2), .ref (h + 3), .ref (h + 4), .ref (h + 5), .ref (h + 6), .ref (h + 7), .ref (h + 8), .int (zI (Z 9)), .int (zI (Z 10)), .int (zI (Z 11)), .int (zI (Z 12)), .int (zI (Z 13)), .int (zI (Z 14)), .int (zI (Z 15)), .int (zI (Z 16)), .ref (h + 9), .ref (h + 10), .ref (h + 11), .int (zI (↑L : Int)), .int (zI ((↑(cq T L N).2.1 : Int) + 1)), .int (zI 0), .ref (h + 12)]) := hf26
            refine lv_aload_n hx hb dX9_isFaulty_33 rfl (lv_at hl 0 rfl) ?_
            have hf27 := hL1.kept (o25 (h + 11) (by omega))
            have hf28 := hL2.kept (o25 (h + 12) (by omega))
            have hC29 := c_X9_command l g b0 n f24 h Z In C1 T L (((cq T L N).2.1) + 1) hf26 hrg hf27 hTT hL htx (by omega) hf28
            refine g_callVv (ci := 11) (C := RX9) (T := TX9) (N := 24) (As := []) (rest := []) ⟨hx, hb, hml, hown, hts⟩ hK hM hC29 (cuV (n := 0) hts u_1561 u_1558 u_10 (by decide) u_1560 us_68 ⟨Nat.le_of_ble_eq_true rfl, Nat.le_of_ble_eq_true rfl⟩) ⟨by omega, by omega⟩ hf26 rfl rfl hl.1 rfl (Nat.le_of_ble_eq_true rfl) dX9_isFaulty_34 ⟨Nat.zero_le _, Nat.zero_le _⟩ (fun f30 H locs hM hp31 => ?_)
            rcases hp31 with ⟨hcc32, hm33, ⟨C935, hj35, hcc32a, hcc32b, hcc32c, hcc32d⟩, o34⟩ | ⟨hcc36, hm37, ⟨C939, hj39⟩, o38⟩
            · skip
              have ho40 : f30 h = .inr (11, [.int (zI (Z 0)), .ref (h + 1), .ref (h + 2), .ref (h + 3), .ref (h + 4), .ref (h + 5), .ref (h + 6), .ref (h + 7), .ref (h + 8), .int (zI (Z 9)), .int (zI (Z 10)), .int (zI (Z 11)), .int (zI (Z 12)), .int (zI (Z 13)), .int (zI (Z 14)), .int (zI (Z 15)), .int (zI (Z 16)), .ref (h + 9), .ref (h + 10), .ref (h + 11), .int (zI (↑L : Int)), .int (zI (↑(sCmd T L (((cq T L N).2.1) + 1)).2.1 : Int)), .int (zI 0), .ref (h + 12)]) := hm33
              refine lv_goto (tgt := 14) hx hb dX9_isFaulty_37 (by decide) ?_
              have hf41 := hf27.kept (o34 (h + 11) (by omega))
              exact ih14 (N + 1) 0 _ f30 _ _ _ (by have hp8 := chn_pos hL hch8; omega) hch8 (Or.inl ⟨rfl, hcc32⟩) (fun q hq => ((o34 (q) (by omega)).trans ((o25 (q) (by omega)).trans (hfr (q) (by omega))))) hM ho40 hf41 hj35 (lv_sub hl [0] rfl)
            · skip
              have ho42 : f30 h = .inr (11, [.int (zI (Z 0)), .ref (h + 1), .ref (h + 2), .ref (h + 3), .ref (h + 4), .ref (h + 5), .ref (h + 6), .ref (h + 7), .ref (h + 8), .int (zI (Z 9)), .int (zI (Z 10)), .int (zI (Z 11)), .int (zI (Z 12)), .int (zI (Z 13)), .int (zI (Z 14)), .int (zI (Z 15)), .int (zI (Z 16)), .ref (h + 9), .ref (h + 10), .ref (h + 11), .int (zI (↑L : Int)), .int (zI (↑(sCmd T L (((cq T L N).2.1) + 1)).2.1 : Int)), .int (zI 1), .ref (h + 12)]) := hm37
              refine lv_goto (tgt := 14) hx hb dX9_isFaulty_37 (by decide) ?_
              have hf43 := hf27.kept (o38 (h + 11) (by omega))
              exact ih14 (N + 1) 1 _ f30 _ _ _ (by have hp8 := chn_pos hL hch8; omega) hch8 (Or.inr ⟨rfl, hcc36⟩) (fun q hq => ((o38 (q) (by omega)).trans ((o25 (q) (by omega)).trans (hfr (q) (by omega))))) hM ho42 hf43 hj39 (lv_sub hl [0] rfl)
        · skip
          rw [if_neg (by decide)]
          refine g_bipush hx hb dX9_isFaulty_18 (by decide) ?_
          refine g_icmp_ne (tgt := 40) hx hb dX9_isFaulty_20 (by decide) (by decide) (by decide) (fun c20 => ?_) (fun c20 => ?_)
          · skip
            refine lv_aload_n hx hb dX9_isFaulty_40 rfl (lv_at hl 0 rfl) ?_
            refine g_get (ci := 11) (v := .int (zI 1)) (C := RX9) (T := TX9) (N := 24) hx hb hts iU_X9 hown hK hM ⟨by omega, by omega⟩ hL0 rfl 22 (by decide) (hts _ u_1166) (fun _ h9 => h9) rfl dX9_isFaulty_41 ?_
            refine g_if_ne (tgt := 58) hx hb dX9_isFaulty_44 (by decide) (by decide) (fun c44 => ?_) (fun c44 => ?_)
            · skip
              refine g_iconst hx hb dX9_isFaulty_58 ?_
              refine lv_goto (tgt := 63) hx hb dX9_isFaulty_59 (by decide) ?_
              refine g_zret hx hb hr hlk hK hM dX9_isFaulty_63 rfl ?_
              exact Or.inr ⟨N, ⟨hch, Or.inr ⟨Or.inl hq0, rfl⟩⟩, rfl, ⟨1, hL0⟩, ⟨_, hL2⟩, (fun q hq => (hfr (q) (by omega)))⟩
            · exact absurd c44 (by decide)
          · exact absurd c20 (by decide)
    have hf44 := hf7.kept (o14 (h + 11) (by omega))
    exact lp14 (62) 0 0 _ f10 _ _ _ (by omega) (fun j hj => absurd hj (Nat.not_lt_zero _)) (Or.inl ⟨rfl, hcc12⟩) (fun q hq => ((o14 (q) (by omega)).trans ((o5 (q) (by omega)).trans (o2 (q) (by omega))))) hM ho20 hf44 hj15 (lv_sub hl [0] rfl)
  · skip
    have ho45 : f10 h = .inr (11, [.int (zI (Z 0)), .ref (h + 1), .ref (h + 2), .ref (h + 3), .ref (h + 4), .ref (h + 5), .ref (h + 6), .ref (h + 7), .ref (h + 8), .int (zI (Z 9)), .int (zI (Z 10)), .int (zI (Z 11)), .int (zI (Z 12)), .int (zI (Z 13)), .int (zI (Z 14)), .int (zI (Z 15)), .int (zI (Z 16)), .ref (h + 9), .ref (h + 10), .ref (h + 11), .int (zI (↑L : Int)), .int (zI (↑(sCmd T L 0).2.1 : Int)), .int (zI 1), .ref (h + 12)]) := hm17
    have lp14 : ∀ (k : Nat), ∀ (N : Nat) (w1 : Int) (C1 : Nat → Int) (fL : gF) (H : Heap) (locs : List Loc) (ls : Array Slot), (61 - N < k) → (chn T L N) → ((w1 = 0 ∧ (cq T L N).1 = true) ∨ (w1 = 1 ∧ (cq T L N).1 = false)) → (∀ q, (q ≠ h ∧ q ≠ h + 12) → fL q = f q) → gH g b0 n fL s.heap H locs → (mdO fL h (zR Z ↑L ↑(cq T L N).2.1 w1)) → (arI g fL (h + 11) 60 In) → (arI g fL (h + 12) 4 C1) → lv_has ls 1 [(0, .ref h)] → W p l e0 { frames := 4, cells := 0, slots := 0, locals := 89 } s m args below meth c H locs 0 0 (MQ below (va_Qi (po_X9_isFaulty g f h Z In C T L ra rw9) (gB g b0 n) (gA b0)) args s 0 0 (gA b0)) (F0 m 14 ls []) := by
      intro k
      induction k with
      | zero =>
        intro N w1 C1 fL H locs ls hk hch hw hfr hM hL0 hL1 hL2 hl
        exact absurd hk (Nat.not_lt_zero _)
      | succ k ih14 =>
        intro N w1 C1 fL H locs ls hk hch hw hfr hM hL0 hL1 hL2 hl
        have hpL : (cq T L N).2.1 ≤ L := (chn_in hL hch).1.2.1
        refine lv_aload_n hx hb dX9_isFaulty_14 rfl (lv_at hl 0 rfl) ?_
        have hC46 := c_X9_sign l g b0 n fL h Z In T L (cq T L N).2.1 w1 hL0 hrg hL1 hTT hL htx hpL (by rcases hw with q | q; exact Or.inl q.1; exact Or.inr q.1)
        refine g_callVi (ci := 11) (C := RX9) (T := TX9) (N := 24) (As := []) (rest := []) ⟨hx, hb, hml, hown, hts⟩ hK hM hC46 (cuV (n := 0) hts u_1565 u_1562 u_10 (by decide) u_1564 us_69 ⟨Nat.le_of_ble_eq_true rfl, Nat.le_of_ble_eq_true rfl⟩) ⟨by omega, by omega⟩ hL0 rfl rfl hl.1 rfl (Nat.le_of_ble_eq_true rfl) dX9_isFaulty_15 ⟨Nat.zero_le _, Nat.zero_le _⟩ (fun r15 f47 H locs hM hp48 => ?_)
        obtain ⟨rfl, rfl⟩ := hp48
        rcases hw with ⟨rfl, hq0⟩ | ⟨rfl, hq0⟩
        · skip
          rw [if_pos rfl]
          have hnx9 := nx_in (T := T) (L := L) (a := (cq T L N).2.1) htx
          refine g_bipush hx hb dX9_isFaulty_18 (by decide) ?_
          refine g_icmp_ne (tgt := 40) hx hb dX9_isFaulty_20 (by decide) ⟨by omega, by omega⟩ (by decide) (fun c20 => ?_) (fun c20 => ?_)
          · skip
            refine lv_aload_n hx hb dX9_isFaulty_40 rfl (lv_at hl 0 rfl) ?_
            refine g_get (ci := 11) (v := .int (zI 0)) (C := RX9) (T := TX9) (N := 24) hx hb hts iU_X9 hown hK hM ⟨by omega, by omega⟩ hL0 rfl 22 (by decide) (hts _ u_1166) (fun _ h9 => h9) rfl dX9_isFaulty_41 ?_
            refine g_if_ne (tgt := 58) hx hb dX9_isFaulty_44 (by decide) (by decide) (fun c44 => ?_) (fun c44 => ?_)
            · exact absurd c44 (by decide)
            · skip
              refine lv_aload_n hx hb dX9_isFaulty_47 rfl (lv_at hl 0 rfl) ?_
              refine g_get (ci := 11) (v := .int (zI (↑(cq T L N).2.1 : Int))) (C := RX9) (T := TX9) (N := 24) hx hb hts iU_X9 hown hK hM ⟨by omega, by omega⟩ hL0 rfl 21 (by decide) (hts _ u_1165) (fun _ h9 => h9) rfl dX9_isFaulty_48 ?_
              refine lv_aload_n hx hb dX9_isFaulty_51 rfl (lv_at hl 0 rfl) ?_
              refine g_get (ci := 11) (v := .int (zI (↑L : Int))) (C := RX9) (T := TX9) (N := 24) hx hb hts iU_X9 hown hK hM ⟨by omega, by omega⟩ hL0 rfl 20 (by decide) (hts _ u_1164) (fun _ h9 => h9) rfl dX9_isFaulty_52 ?_
              refine g_icmp_ge (tgt := 62) hx hb dX9_isFaulty_55 (by decide) ⟨by omega, by omega⟩ ⟨by omega, by omega⟩ (fun c55 => ?_) (fun c55 => ?_)
              · skip
                refine g_iconst hx hb dX9_isFaulty_62 ?_
                refine g_zret hx hb hr hlk hK hM dX9_isFaulty_63 rfl ?_
                have hpe : (cq T L N).2.1 = L := by omega
                have hob9 : mdO fL h (zR Z ↑L ↑(cq T L N).2.1 0) := hL0
                rw [hpe] at hob9
                exact Or.inl ⟨N, ⟨hch, Or.inl ⟨hq0, by omega, rfl⟩⟩, rfl, hob9, ⟨_, hL2⟩, (fun q hq => (hfr (q) (by omega)))⟩
              · skip
                refine g_iconst hx hb dX9_isFaulty_58 ?_
                refine lv_goto (tgt := 63) hx hb dX9_isFaulty_59 (by decide) ?_
                refine g_zret hx hb hr hlk hK hM dX9_isFaulty_63 rfl ?_
                exact Or.inr ⟨N, ⟨hch, Or.inr ⟨Or.inr ⟨by omega, by omega⟩, rfl⟩⟩, rfl, ⟨0, hL0⟩, ⟨_, hL2⟩, (fun q hq => (hfr (q) (by omega)))⟩
          · skip
            have hch8 := chn_up hch hq0 (by omega)
            have hlt8 := nx_lt (T := T) (L := L) (a := (cq T L N).2.1) (by omega)
            refine lv_aload_n hx hb dX9_isFaulty_23 rfl (lv_at hl 0 rfl) ?_
            refine lv_dup hx hb dX9_isFaulty_24 rfl ?_
            refine g_get (ci := 11) (v := .int (zI (↑(cq T L N).2.1 : Int))) (C := RX9) (T := TX9) (N := 24) hx hb hts iU_X9 hown hK hM ⟨by omega, by omega⟩ hL0 rfl 21 (by decide) (hts _ u_1165) (fun _ h9 => h9) rfl dX9_isFaulty_25 ?_
            refine g_iconst hx hb dX9_isFaulty_28 ?_
            refine g_iadd hx hb dX9_isFaulty_29 ?_
            refine g_put (ci := 11) (v := .int (zI ((↑(cq T L N).2.1 : Int) + 1))) (ty := .int) (C := RX9) (T := TX9) (N := 24) hx hb hts iU_X9 tyX9 tyX9_ok nmX9 hown hK hM ⟨by omega, by omega⟩ hL0 rfl 21 (by decide) (hts _ u_1165) (fun _ h9 => h9) rfl (by decide +kernel) rfl rfl (Nat.le_of_ble_eq_true rfl) dX9_isFaulty_30 (fun f49 H locs hM hf51 o50 => ?_)
            have hf51 : f49 (h) = .inr (11, [.int (zI (Z 0)), .ref (h + 1), .ref (h + 2), .ref (h + 3), .ref (h + 4), .ref (h + 5), .ref (h + 6), .ref (h + 7), .ref (h + 8), .int (zI (Z 9)), .int (zI (Z 10)), .int (zI (Z 11)), .int (zI (Z 12)), .int (zI (Z 13)), .int (zI (Z 14)), .int (zI (Z 15)), .int (zI (Z 16)), .ref (h + 9), .ref (h + 10), .ref (h + 11), .int (zI (↑L : Int)), .int (zI ((↑(cq T L N).2.1 : Int) + 1)), .int (zI 0), .ref (h + 12)]) := hf51
            refine lv_aload_n hx hb dX9_isFaulty_33 rfl (lv_at hl 0 rfl) ?_
            have hf52 := hL1.kept (o50 (h + 11) (by omega))
            have hf53 := hL2.kept (o50 (h + 12) (by omega))
            have hC54 := c_X9_command l g b0 n f49 h Z In C1 T L (((cq T L N).2.1) + 1) hf51 hrg hf52 hTT hL htx (by omega) hf53
            refine g_callVv (ci := 11) (C := RX9) (T := TX9) (N := 24) (As := []) (rest := []) ⟨hx, hb, hml, hown, hts⟩ hK hM hC54 (cuV (n := 0) hts u_1561 u_1558 u_10 (by decide) u_1560 us_68 ⟨Nat.le_of_ble_eq_true rfl, Nat.le_of_ble_eq_true rfl⟩) ⟨by omega, by omega⟩ hf51 rfl rfl hl.1 rfl (Nat.le_of_ble_eq_true rfl) dX9_isFaulty_34 ⟨Nat.zero_le _, Nat.zero_le _⟩ (fun f55 H locs hM hp56 => ?_)
            rcases hp56 with ⟨hcc57, hm58, ⟨C960, hj60, hcc57a, hcc57b, hcc57c, hcc57d⟩, o59⟩ | ⟨hcc61, hm62, ⟨C964, hj64⟩, o63⟩
            · skip
              have ho65 : f55 h = .inr (11, [.int (zI (Z 0)), .ref (h + 1), .ref (h + 2), .ref (h + 3), .ref (h + 4), .ref (h + 5), .ref (h + 6), .ref (h + 7), .ref (h + 8), .int (zI (Z 9)), .int (zI (Z 10)), .int (zI (Z 11)), .int (zI (Z 12)), .int (zI (Z 13)), .int (zI (Z 14)), .int (zI (Z 15)), .int (zI (Z 16)), .ref (h + 9), .ref (h + 10), .ref (h + 11), .int (zI (↑L : Int)), .int (zI (↑(sCmd T L (((cq T L N).2.1) + 1)).2.1 : Int)), .int (zI 0), .ref (h + 12)]) := hm58
              refine lv_goto (tgt := 14) hx hb dX9_isFaulty_37 (by decide) ?_
              have hf66 := hf52.kept (o59 (h + 11) (by omega))
              exact ih14 (N + 1) 0 _ f55 _ _ _ (by have hp8 := chn_pos hL hch8; omega) hch8 (Or.inl ⟨rfl, hcc57⟩) (fun q hq => ((o59 (q) (by omega)).trans ((o50 (q) (by omega)).trans (hfr (q) (by omega))))) hM ho65 hf66 hj60 (lv_sub hl [0] rfl)
            · skip
              have ho67 : f55 h = .inr (11, [.int (zI (Z 0)), .ref (h + 1), .ref (h + 2), .ref (h + 3), .ref (h + 4), .ref (h + 5), .ref (h + 6), .ref (h + 7), .ref (h + 8), .int (zI (Z 9)), .int (zI (Z 10)), .int (zI (Z 11)), .int (zI (Z 12)), .int (zI (Z 13)), .int (zI (Z 14)), .int (zI (Z 15)), .int (zI (Z 16)), .ref (h + 9), .ref (h + 10), .ref (h + 11), .int (zI (↑L : Int)), .int (zI (↑(sCmd T L (((cq T L N).2.1) + 1)).2.1 : Int)), .int (zI 1), .ref (h + 12)]) := hm62
              refine lv_goto (tgt := 14) hx hb dX9_isFaulty_37 (by decide) ?_
              have hf68 := hf52.kept (o63 (h + 11) (by omega))
              exact ih14 (N + 1) 1 _ f55 _ _ _ (by have hp8 := chn_pos hL hch8; omega) hch8 (Or.inr ⟨rfl, hcc61⟩) (fun q hq => ((o63 (q) (by omega)).trans ((o50 (q) (by omega)).trans (hfr (q) (by omega))))) hM ho67 hf68 hj64 (lv_sub hl [0] rfl)
        · skip
          rw [if_neg (by decide)]
          refine g_bipush hx hb dX9_isFaulty_18 (by decide) ?_
          refine g_icmp_ne (tgt := 40) hx hb dX9_isFaulty_20 (by decide) (by decide) (by decide) (fun c20 => ?_) (fun c20 => ?_)
          · skip
            refine lv_aload_n hx hb dX9_isFaulty_40 rfl (lv_at hl 0 rfl) ?_
            refine g_get (ci := 11) (v := .int (zI 1)) (C := RX9) (T := TX9) (N := 24) hx hb hts iU_X9 hown hK hM ⟨by omega, by omega⟩ hL0 rfl 22 (by decide) (hts _ u_1166) (fun _ h9 => h9) rfl dX9_isFaulty_41 ?_
            refine g_if_ne (tgt := 58) hx hb dX9_isFaulty_44 (by decide) (by decide) (fun c44 => ?_) (fun c44 => ?_)
            · skip
              refine g_iconst hx hb dX9_isFaulty_58 ?_
              refine lv_goto (tgt := 63) hx hb dX9_isFaulty_59 (by decide) ?_
              refine g_zret hx hb hr hlk hK hM dX9_isFaulty_63 rfl ?_
              exact Or.inr ⟨N, ⟨hch, Or.inr ⟨Or.inl hq0, rfl⟩⟩, rfl, ⟨1, hL0⟩, ⟨_, hL2⟩, (fun q hq => (hfr (q) (by omega)))⟩
            · exact absurd c44 (by decide)
          · exact absurd c20 (by decide)
    have hf69 := hf7.kept (o18 (h + 11) (by omega))
    exact lp14 (62) 0 1 _ f10 _ _ _ (by omega) (fun j hj => absurd hj (Nat.not_lt_zero _)) (Or.inr ⟨rfl, hcc16⟩) (fun q hq => ((o18 (q) (by omega)).trans ((o5 (q) (by omega)).trans (o2 (q) (by omega))))) hM ho45 hf69 hj19 (lv_sub hl [0] rfl)

def po_X9_feed (g : gE) (f : gF) (h : Nat) (Z In : Nat → Int) (L : Nat) (v9 : Int) : Int32 → gF → Prop := fun r f1 => (L = 60 ∧ mdO f1 h (pu (pu Z 20 ↑L) 0 1) ∧ ∀ q, q ≠ h → f1 q = f q) ∨ (L < 60 ∧ r = zI (↑L + 1) ∧ mdO f1 h (pu (pu Z 20 (↑L + 1)) 0 0) ∧ arI g f1 (h + 11) 60 (pu In L v9) ∧ ∀ q, (q ≠ h ∧ q ≠ h + 11) → f1 q = f q)
set_option maxRecDepth 100000 in
set_option maxHeartbeats 1000000 in
/-- feed -/
theorem c_X9_feed (l : Launch) (g : gE) (b0 n : Nat) (f : gF) (h : Nat) (Z In : Nat → Int) (L : Nat) (v9 : Int) (hO : mdO f h (pu Z 20 ↑L)) (hrg : b0 ≤ h ∧ h + 13 ≤ b0 + n) (hIn : arI g f (h + 11) 60 In) (hL : L ≤ 60) : cI l yX9_feed cX9_feed 2 (some .int) 1 21 [.ref h, .int (zI v9)] g b0 n f (po_X9_feed g f h Z In L v9) := by
  refine gs_i (cc := cX9_feed) (maxL := 2) (ret := (some .int)) (by decide) (Nat.le_of_ble_eq_true rfl) ?_
  intro p e0 s m args below meth c ls hx hb hr hml hown hts hlk hK hM hl
  have hl : lv_has ls 2 [(0, .ref h), (1, .int (zI v9))] := hl
  unfold po_X9_feed
  refine lv_aload_n hx hb dX9_feed_0 rfl (lv_at hl 0 rfl) ?_
  refine g_iconst hx hb dX9_feed_1 ?_
  refine g_put (ci := 11) (v := .int (zI 0)) (ty := .int) (C := RX9) (T := TX9) (N := 24) hx hb hts iU_X9 tyX9 tyX9_ok nmX9 hown hK hM ⟨by omega, by omega⟩ hO rfl 0 (by decide) (hts _ u_1144) (fun _ h9 => h9) rfl (by decide +kernel) rfl rfl (Nat.le_of_ble_eq_true rfl) dX9_feed_2 (fun f1 H locs hM hf3 o2 => ?_)
  have hf3 : f1 (h) = .inr (11, [.int (zI 0), .ref (h + 1), .ref (h + 2), .ref (h + 3), .ref (h + 4), .ref (h + 5), .ref (h + 6), .ref (h + 7), .ref (h + 8), .int (zI (Z 9)), .int (zI (Z 10)), .int (zI (Z 11)), .int (zI (Z 12)), .int (zI (Z 13)), .int (zI (Z 14)), .int (zI (Z 15)), .int (zI (Z 16)), .ref (h + 9), .ref (h + 10), .ref (h + 11), .int (zI (↑L : Int)), .int (zI (Z 21)), .int (zI (Z 22)), .ref (h + 12)]) := hf3
  refine lv_aload_n hx hb dX9_feed_5 rfl (lv_at hl 0 rfl) ?_
  refine g_get (ci := 11) (v := .int (zI (↑L : Int))) (C := RX9) (T := TX9) (N := 24) hx hb hts iU_X9 hown hK hM ⟨by omega, by omega⟩ hf3 rfl 20 (by decide) (hts _ u_1164) (fun _ h9 => h9) rfl dX9_feed_6 ?_
  refine g_bipush hx hb dX9_feed_9 (by decide) ?_
  refine g_icmp_ne (tgt := 20) hx hb dX9_feed_11 (by decide) ⟨by omega, by omega⟩ (by decide) (fun c11 => ?_) (fun c11 => ?_)
  · skip
    refine lv_aload_n hx hb dX9_feed_20 rfl (lv_at hl 0 rfl) ?_
    refine g_get (ci := 11) (v := .ref (h + 11)) (C := RX9) (T := TX9) (N := 24) hx hb hts iU_X9 hown hK hM ⟨by omega, by omega⟩ hf3 rfl 19 (by decide) (hts _ u_1163) (fun _ h9 => h9) rfl dX9_feed_21 ?_
    refine lv_aload_n hx hb dX9_feed_24 rfl (lv_at hl 0 rfl) ?_
    refine g_get (ci := 11) (v := .int (zI (↑L : Int))) (C := RX9) (T := TX9) (N := 24) hx hb hts iU_X9 hown hK hM ⟨by omega, by omega⟩ hf3 rfl 20 (by decide) (hts _ u_1164) (fun _ h9 => h9) rfl dX9_feed_25 ?_
    refine lv_iload_n hx hb dX9_feed_28 rfl (lv_at hl 1 rfl) ?_
    have hf4 := hIn.kept (o2 (h + 11) (by omega))
    refine g_iast hx hb hK hM ⟨by omega, by omega⟩ hf4 (by omega) (by omega) (by decide) dX9_feed_29 (fun f5 H locs hM ha7 o6 => ?_)
    refine lv_aload_n hx hb dX9_feed_30 rfl (lv_at hl 0 rfl) ?_
    refine lv_dup hx hb dX9_feed_31 rfl ?_
    have hf8 : f5 (h) = .inr (11, [.int (zI 0), .ref (h + 1), .ref (h + 2), .ref (h + 3), .ref (h + 4), .ref (h + 5), .ref (h + 6), .ref (h + 7), .ref (h + 8), .int (zI (Z 9)), .int (zI (Z 10)), .int (zI (Z 11)), .int (zI (Z 12)), .int (zI (Z 13)), .int (zI (Z 14)), .int (zI (Z 15)), .int (zI (Z 16)), .ref (h + 9), .ref (h + 10), .ref (h + 11), .int (zI (↑L : Int)), .int (zI (Z 21)), .int (zI (Z 22)), .ref (h + 12)]) := (o6 (h) (by omega)).trans hf3
    refine g_get (ci := 11) (v := .int (zI (↑L : Int))) (C := RX9) (T := TX9) (N := 24) hx hb hts iU_X9 hown hK hM ⟨by omega, by omega⟩ hf8 rfl 20 (by decide) (hts _ u_1164) (fun _ h9 => h9) rfl dX9_feed_32 ?_
    refine g_iconst hx hb dX9_feed_35 ?_
    refine g_iadd hx hb dX9_feed_36 ?_
    refine g_put (ci := 11) (v := .int (zI ((↑L : Int) + 1))) (ty := .int) (C := RX9) (T := TX9) (N := 24) hx hb hts iU_X9 tyX9 tyX9_ok nmX9 hown hK hM ⟨by omega, by omega⟩ hf8 rfl 20 (by decide) (hts _ u_1164) (fun _ h9 => h9) rfl (by decide +kernel) rfl rfl (Nat.le_of_ble_eq_true rfl) dX9_feed_37 (fun f9 H locs hM hf11 o10 => ?_)
    have hf11 : f9 (h) = .inr (11, [.int (zI 0), .ref (h + 1), .ref (h + 2), .ref (h + 3), .ref (h + 4), .ref (h + 5), .ref (h + 6), .ref (h + 7), .ref (h + 8), .int (zI (Z 9)), .int (zI (Z 10)), .int (zI (Z 11)), .int (zI (Z 12)), .int (zI (Z 13)), .int (zI (Z 14)), .int (zI (Z 15)), .int (zI (Z 16)), .ref (h + 9), .ref (h + 10), .ref (h + 11), .int (zI ((↑L : Int) + 1)), .int (zI (Z 21)), .int (zI (Z 22)), .ref (h + 12)]) := hf11
    refine lv_aload_n hx hb dX9_feed_40 rfl (lv_at hl 0 rfl) ?_
    refine g_get (ci := 11) (v := .int (zI ((↑L : Int) + 1))) (C := RX9) (T := TX9) (N := 24) hx hb hts iU_X9 hown hK hM ⟨by omega, by omega⟩ hf11 rfl 20 (by decide) (hts _ u_1164) (fun _ h9 => h9) rfl dX9_feed_41 ?_
    have hf12 := ha7.kept (o10 (h + 11) (by omega))
    refine g_iret hx hb hr hlk hK hM dX9_feed_44 ?_
    exact Or.inr ⟨by omega, rfl, hf11, hf12, (fun q hq => ((o10 (q) (by omega)).trans ((o6 (q) (by omega)).trans (o2 (q) (by omega)))))⟩
  · skip
    refine lv_aload_n hx hb dX9_feed_14 rfl (lv_at hl 0 rfl) ?_
    refine g_iconst hx hb dX9_feed_15 ?_
    have hC13 := c_X9_fails l g b0 n f1 h (pu (pu Z 0 0) 20 (↑L : Int)) 1 hf3 hrg
    refine g_callVi (ci := 11) (C := RX9) (T := TX9) (N := 24) (As := [.int (zI 1)]) (rest := []) ⟨hx, hb, hml, hown, hts⟩ hK hM hC13 (cuV (n := 1) hts u_1412 u_1409 u_10 (by decide) u_1411 us_55 ⟨Nat.le_of_ble_eq_true rfl, Nat.le_of_ble_eq_true rfl⟩) ⟨by omega, by omega⟩ hf3 rfl rfl hl.1 rfl (Nat.le_of_ble_eq_true rfl) dX9_feed_16 ⟨Nat.zero_le _, Nat.zero_le _⟩ (fun r16 f14 H locs hM hp15 => ?_)
    obtain ⟨rfl, hm16, o17⟩ := hp15
    have ho18 : f14 h = .inr (11, [.int (zI 1), .ref (h + 1), .ref (h + 2), .ref (h + 3), .ref (h + 4), .ref (h + 5), .ref (h + 6), .ref (h + 7), .ref (h + 8), .int (zI (Z 9)), .int (zI (Z 10)), .int (zI (Z 11)), .int (zI (Z 12)), .int (zI (Z 13)), .int (zI (Z 14)), .int (zI (Z 15)), .int (zI (Z 16)), .ref (h + 9), .ref (h + 10), .ref (h + 11), .int (zI (↑L : Int)), .int (zI (Z 21)), .int (zI (Z 22)), .ref (h + 12)]) := hm16
    refine g_iret hx hb hr hlk hK hM dX9_feed_19 ?_
    exact Or.inl ⟨by omega, ho18, (fun q hq => ((o17 (q) (by omega)).trans (o2 (q) (by omega))))⟩

def po_X9_readPlan (g : gE) (f : gF) (h : Nat) (Z M St Mn Pr : Nat → Int) (B P T : Nat → Nat → Int) (sc : Nat → Nat) (pr ex : Nat → Int) (ps : Nat) (In C tx : Nat → Int) (L : Nat) (ra rw9 v0 : Int) : Int32 → gF → Prop := fun r f1 => ∃ (e9 : Int) (N M9 : Nat), rdE tx L e9 N ∧ M9 = (if e9 = -1 then N + 1 else 0) ∧ r = zI (if e9 = -1 then (↑(sEx tx L ps P T sc (Z 12) M9).2.1 : Int) else -100 - e9) ∧ (∃ M1 St1 Mn1 : Nat → Int, arJ g f1 (h + 1) 2058 M1 ∧ arI g f1 (h + 3) 1800 St1 ∧ arI g f1 (h + 4) 6 Mn1 ∧ mRel M1 St1 Mn1 Pr B (exP (sEx tx L ps P T sc (Z 12) M9)) (exT (sEx tx L ps P T sc (Z 12) M9)) (exC (sEx tx L ps P T sc (Z 12) M9)) pr ex) ∧ (∃ Z1 : Nat → Int, mdO f1 h Z1 ∧ Z1 12 = exR (sEx tx L ps P T sc (Z 12) M9) ∧ Z1 20 = 0 ∧ ∀ j, j ≠ 11 → j ≠ 12 → j ≠ 15 → j ≠ 20 → j ≠ 21 → j ≠ 22 → Z1 j = Z j) ∧ scrAt g f1 h ∧ (∃ C1 : Nat → Int, arI g f1 (h + 12) 4 C1) ∧ ∀ q, (q < h ∨ q = h + 2 ∨ (h + 5 ≤ q ∧ q < h + 9) ∨ q = h + 11 ∨ h + 13 ≤ q) → f1 q = f q
set_option maxRecDepth 100000 in
set_option maxHeartbeats 1000000 in
/-- readPlan -/
theorem c_X9_readPlan (l : Launch) (g : gE) (b0 n : Nat) (f : gF) (h : Nat) (Z M St Mn Pr : Nat → Int) (B P T : Nat → Nat → Int) (sc : Nat → Nat) (pr ex : Nat → Int) (ps : Nat) (In C tx : Nat → Int) (L : Nat) (ra rw9 v0 : Int) (hO : mdO f h (zR Z ↑L ra rw9)) (hrg : b0 ≤ h ∧ h + 13 ≤ b0 + n) (hPl : arJ g f (h + 1) 2058 M) (hSt : arI g f (h + 3) 1800 St) (hMn : arI g f (h + 4) 6 Mn) (hPr : arI g f (h + 5) 6 Pr) (hR : mRel M St Mn Pr B P T sc pr ex) (hz9 : Z 9 = ↑ps) (hps : ps < 6) (hpx : ex ps = 1) (hsc : scrAt g f h) (hIn : arI g f (h + 11) 60 In) (hTT : ∀ k, k < L → In k = tx k) (hL : L ≤ 60) (htx : txOk tx) (hC : arI g f (h + 12) 4 C) (hok : ∀ k, k < 6 → pOk (P k) v0) (hv1 : 0 ≤ v0) (hv0 : v0 + 541 * 62 ≤ 800000000) (hsc6 : ∀ k, k < 6 → sc k ≤ 60) : cI l yX9_readPlan cX9_readPlan 3 (some .int) 9 276 [.ref h] g b0 n f (po_X9_readPlan g f h Z M St Mn Pr B P T sc pr ex ps In C tx L ra rw9 v0) := by
  refine gs_i (cc := cX9_readPlan) (maxL := 3) (ret := (some .int)) (by decide) (Nat.le_of_ble_eq_true rfl) ?_
  intro p e0 s m args below meth c ls hx hb hr hml hown hts hlk hK hM hl
  have hl : lv_has ls 3 [(0, .ref h)] := hl
  refine lv_aload_n hx hb dX9_readPlan_0 rfl (lv_at hl 0 rfl) ?_
  have hC1 := c_X9_isFaulty l g b0 n f h Z In C tx L ra rw9 hO hrg hIn hTT hL htx hC
  refine g_callVi (ci := 11) (C := RX9) (T := TX9) (N := 24) (As := []) (rest := []) ⟨hx, hb, hml, hown, hts⟩ hK hM hC1 (cuV (n := 0) hts u_1557 u_1554 u_10 (by decide) u_1556 us_67 ⟨Nat.le_of_ble_eq_true rfl, Nat.le_of_ble_eq_true rfl⟩) ⟨by omega, by omega⟩ hO rfl rfl hl.1 rfl (Nat.le_of_ble_eq_true rfl) dX9_readPlan_1 ⟨Nat.zero_le _, Nat.zero_le _⟩ (fun r1 f2 H locs hM hp3 => ?_)
  unfold po_X9_isFaulty at hp3
  rcases hp3 with ⟨N, hrd, rfl, hm0, ⟨C8, hj0⟩, o0⟩ | ⟨N, hrd, rfl, ⟨w9, hm0⟩, ⟨C8, hj0⟩, o0⟩
  · skip
    have ho4 : f2 h = .inr (11, [.int (zI (Z 0)), .ref (h + 1), .ref (h + 2), .ref (h + 3), .ref (h + 4), .ref (h + 5), .ref (h + 6), .ref (h + 7), .ref (h + 8), .int (zI (Z 9)), .int (zI (Z 10)), .int (zI (Z 11)), .int (zI (Z 12)), .int (zI (Z 13)), .int (zI (Z 14)), .int (zI (Z 15)), .int (zI (Z 16)), .ref (h + 9), .ref (h + 10), .ref (h + 11), .int (zI (↑L : Int)), .int (zI (↑L : Int)), .int (zI 0), .ref (h + 12)]) := hm0
    refine g_if_eq (tgt := 20) hx hb dX9_readPlan_4 (by decide) (by decide) (fun c4 => ?_) (fun c4 => ?_)
    · skip
      refine lv_aload_n hx hb dX9_readPlan_20 rfl (lv_at hl 0 rfl) ?_
      refine g_iconst hx hb dX9_readPlan_21 ?_
      refine g_put (ci := 11) (v := .int (zI 0)) (ty := .int) (C := RX9) (T := TX9) (N := 24) hx hb hts iU_X9 tyX9 tyX9_ok nmX9 hown hK hM ⟨by omega, by omega⟩ ho4 rfl 21 (by decide) (hts _ u_1165) (fun _ h9 => h9) rfl (by decide +kernel) rfl rfl (Nat.le_of_ble_eq_true rfl) dX9_readPlan_22 (fun f5 H locs hM hf7 o6 => ?_)
      have hf7 : f5 (h) = .inr (11, [.int (zI (Z 0)), .ref (h + 1), .ref (h + 2), .ref (h + 3), .ref (h + 4), .ref (h + 5), .ref (h + 6), .ref (h + 7), .ref (h + 8), .int (zI (Z 9)), .int (zI (Z 10)), .int (zI (Z 11)), .int (zI (Z 12)), .int (zI (Z 13)), .int (zI (Z 14)), .int (zI (Z 15)), .int (zI (Z 16)), .ref (h + 9), .ref (h + 10), .ref (h + 11), .int (zI (↑L : Int)), .int (zI 0), .int (zI 0), .ref (h + 12)]) := hf7
      refine g_iconst hx hb dX9_readPlan_25 ?_
      refine lv_istore_n (lv' := [(1, .int (zI 0)), (0, .ref h)]) hx hb dX9_readPlan_26 rfl hl (by decide) rfl (fun ls hl => ?_)
      refine lv_aload_n hx hb dX9_readPlan_27 rfl (lv_at hl 1 rfl) ?_
      refine g_iconst hx hb dX9_readPlan_28 ?_
      refine g_put (ci := 11) (v := .int (zI 0)) (ty := .int) (C := RX9) (T := TX9) (N := 24) hx hb hts iU_X9 tyX9 tyX9_ok nmX9 hown hK hM ⟨by omega, by omega⟩ hf7 rfl 15 (by decide) (hts _ u_1159) (fun _ h9 => h9) rfl (by decide +kernel) rfl rfl (Nat.le_of_ble_eq_true rfl) dX9_readPlan_29 (fun f8 H locs hM hf10 o9 => ?_)
      have hf10 : f8 (h) = .inr (11, [.int (zI (Z 0)), .ref (h + 1), .ref (h + 2), .ref (h + 3), .ref (h + 4), .ref (h + 5), .ref (h + 6), .ref (h + 7), .ref (h + 8), .int (zI (Z 9)), .int (zI (Z 10)), .int (zI (Z 11)), .int (zI (Z 12)), .int (zI (Z 13)), .int (zI (Z 14)), .int (zI 0), .int (zI (Z 16)), .ref (h + 9), .ref (h + 10), .ref (h + 11), .int (zI (↑L : Int)), .int (zI 0), .int (zI 0), .ref (h + 12)]) := hf10
      have lp32 : ∀ (k : Nat), ∀ (i : Nat) (rp : Nat) (a11 : Int) (M1 : Nat → Int) (St1 : Nat → Int) (Mn1 : Nat → Int) (C1 : Nat → Int) (fL : gF) (H : Heap) (locs : List Loc) (ls : Array Slot), (N + 1 - i < k) → (i ≤ N + 1) → ((sEx tx L ps P T sc (Z 12) i).1 = false) → ((i = 0 ∧ rp = 0) ∨ (0 < i ∧ rp + 1 = sPos tx L i)) → (mRel M1 St1 Mn1 Pr B (exP (sEx tx L ps P T sc (Z 12) i)) (exT (sEx tx L ps P T sc (Z 12) i)) (exC (sEx tx L ps P T sc (Z 12) i)) pr ex) → (∀ q, (q < h ∨ q = h + 2 ∨ (h + 5 ≤ q ∧ q < h + 9) ∨ q = h + 11 ∨ h + 13 ≤ q) → fL q = f q) → gH g b0 n fL s.heap H locs → (mdO fL h (pu (pu (pu (pu (pu (pu Z 11 a11) 12 (exR (sEx tx L ps P T sc (Z 12) i))) 15 0) 20 ↑L) 21 ↑rp) 22 0)) → (arJ g fL (h + 1) 2058 M1) → (arI g fL (h + 3) 1800 St1) → (arI g fL (h + 4) 6 Mn1) → (arI g fL (h + 5) 6 Pr) → (scrAt g fL h) → (arI g fL (h + 11) 60 In) → (arI g fL (h + 12) 4 C1) → lv_has ls 3 [(0, .ref h), (1, .int (zI (↑i : Int)))] → W p l e0 { frames := 9, cells := 0, slots := 0, locals := 276 } s m args below meth c H locs 0 0 (MQ below (va_Qi (po_X9_readPlan g f h Z M St Mn Pr B P T sc pr ex ps In C tx L ra rw9 v0) (gB g b0 n) (gA b0)) args s 0 0 (gA b0)) (F0 m 32 ls []) := by
        intro k
        induction k with
        | zero =>
          intro i rp a11 M1 St1 Mn1 C1 fL H locs ls hk hi hns hrp hRL hfr hM hL0 hL1 hL3 hL4 hL5 hL9 hL11 hL12 hl
          exact absurd hk (Nat.not_lt_zero _)
        | succ k ih32 =>
          intro i rp a11 M1 St1 Mn1 C1 fL H locs ls hk hi hns hrp hRL hfr hM hL0 hL1 hL3 hL4 hL5 hL9 hL11 hL12 hl
          have hNL := chn_pos hL hrd.1
          have hrL : rp ≤ L := by
            rcases hrp with q | q
            · omega
            · obtain ⟨q1, q2⟩ := q
              obtain ⟨j, rfl⟩ : ∃ j, i = j + 1 := ⟨i - 1, by omega⟩
              have q3 : sPos tx L (j + 1) = (cq tx L j).2.1 + 1 := rfl
              have q4 := (chn_in (T := tx) hL (N := j) (fun j1 hj1 => hrd.1 j1 (by omega))).1.2.1
              omega
          refine lv_aload_n hx hb dX9_readPlan_32 rfl (lv_at hl 0 rfl) ?_
          refine g_get (ci := 11) (v := .int (zI (↑rp : Int))) (C := RX9) (T := TX9) (N := 24) hx hb hts iU_X9 hown hK hM ⟨by omega, by omega⟩ hL0 rfl 21 (by decide) (hts _ u_1165) (fun _ h9 => h9) rfl dX9_readPlan_33 ?_
          refine lv_aload_n hx hb dX9_readPlan_36 rfl (lv_at hl 0 rfl) ?_
          refine g_get (ci := 11) (v := .int (zI (↑L : Int))) (C := RX9) (T := TX9) (N := 24) hx hb hts iU_X9 hown hK hM ⟨by omega, by omega⟩ hL0 rfl 20 (by decide) (hts _ u_1164) (fun _ h9 => h9) rfl dX9_readPlan_37 ?_
          refine g_icmp_ge (tgt := 116) hx hb dX9_readPlan_40 (by decide) ⟨by omega, by omega⟩ ⟨by omega, by omega⟩ (fun c40 => ?_) (fun c40 => ?_)
          · skip
            refine lv_aload_n hx hb dX9_readPlan_116 rfl (lv_at hl 0 rfl) ?_
            refine g_iconst hx hb dX9_readPlan_117 ?_
            refine g_put (ci := 11) (v := .int (zI 0)) (ty := .int) (C := RX9) (T := TX9) (N := 24) hx hb hts iU_X9 tyX9 tyX9_ok nmX9 hown hK hM ⟨by omega, by omega⟩ hL0 rfl 20 (by decide) (hts _ u_1164) (fun _ h9 => h9) rfl (by decide +kernel) rfl rfl (Nat.le_of_ble_eq_true rfl) dX9_readPlan_118 (fun f11 H locs hM hf13 o12 => ?_)
            have hf13 : f11 (h) = .inr (11, [.int (zI (Z 0)), .ref (h + 1), .ref (h + 2), .ref (h + 3), .ref (h + 4), .ref (h + 5), .ref (h + 6), .ref (h + 7), .ref (h + 8), .int (zI (Z 9)), .int (zI (Z 10)), .int (zI a11), .int (zI (exR (sEx tx L ps P T sc (Z 12) i))), .int (zI (Z 13)), .int (zI (Z 14)), .int (zI 0), .int (zI (Z 16)), .ref (h + 9), .ref (h + 10), .ref (h + 11), .int (zI 0), .int (zI (↑rp : Int)), .int (zI 0), .ref (h + 12)]) := hf13
            refine lv_iload_n hx hb dX9_readPlan_121 rfl (lv_at hl 1 rfl) ?_
            have hf14 := hL1.kept (o12 (h + 1) (by omega))
            have hf15 := hL3.kept (o12 (h + 3) (by omega))
            have hf16 := hL4.kept (o12 (h + 4) (by omega))
            have hf17 := hL12.kept (o12 (h + 12) (by omega))
            have hf18 := hL9.kept (fun q h1 h2 => (o12 (q) (by omega)))
            refine g_iret hx hb hr hlk hK hM dX9_readPlan_122 ?_
            have hii : i = N + 1 := by
              rcases hrp with q | q
              · obtain ⟨q1, q2⟩ := q
                subst q1
                rcases hrd.2 with q | q
                · have q3 := (chn_in hL hrd.1).2 q.1; have q4 := (chn_in hL hrd.1).1.2.1; omega
                · have q2 := q.2; omega
              · obtain ⟨q1, q2⟩ := q
                obtain ⟨j, rfl⟩ : ∃ j, i = j + 1 := ⟨i - 1, by omega⟩
                have q3 : sPos tx L (j + 1) = (cq tx L j).2.1 + 1 := rfl
                rcases Nat.lt_or_ge j N with q | q
                · have q5 := nx_lt (T := tx) (L := L) (a := (cq tx L j).2.1) (by have := (hrd.1 j q).2; omega)
                  omega
                · omega
            subst hii
            exact ⟨-1, N, N + 1, hrd, (if_pos rfl).symm, by rw [if_pos rfl, sEx_cnt hns], ⟨_, _, _, hf14, hf15, hf16, hRL⟩, ⟨(pu (pu (pu (pu (pu (pu Z 11 a11) 12 (exR (sEx tx L ps P T sc (Z 12) (N + 1)))) 15 0) 20 0) 21 (↑rp : Int)) 22 0), hf13, rfl, rfl, fun j h1 h2 h3 h4 h5 h6 => by rw [pu_n (by omega), pu_n (by omega), pu_n (by omega), pu_n (by omega), pu_n (by omega), pu_n (by omega)]⟩, hf18, ⟨_, hf17⟩, fun q hq => ((o12 (q) (by omega)).trans (hfr (q) (by omega)))⟩
          · skip
            have hiN : i ≤ N := by
              rcases Nat.lt_or_ge N i with q | q
              · rcases hrp with q8 | q8
                · omega
                · have q3 : sPos tx L (N + 1) = (cq tx L N).2.1 + 1 := rfl
                  have q4 : i = N + 1 := by omega
                  rw [q4] at q8
                  rcases hrd.2 with q7 | q7
                  · have := q7.2.1; omega
                  · have := q7.2; omega
              · exact q
            refine lv_aload_n hx hb dX9_readPlan_43 rfl (lv_at hl 0 rfl) ?_
            refine g_get (ci := 11) (v := .int (zI 0)) (C := RX9) (T := TX9) (N := 24) hx hb hts iU_X9 hown hK hM ⟨by omega, by omega⟩ hL0 rfl 15 (by decide) (hts _ u_1159) (fun _ h9 => h9) rfl dX9_readPlan_44 ?_
            refine g_if_ne (tgt := 116) hx hb dX9_readPlan_47 (by decide) (by decide) (fun c47 => ?_) (fun c47 => ?_)
            · exact absurd c47 (by decide)
            · skip
              refine lv_iload_n hx hb dX9_readPlan_50 rfl (lv_at hl 1 rfl) ?_
              refine g_if_le (tgt := 64) hx hb dX9_readPlan_51 (by decide) ⟨by omega, by omega⟩ (fun c51 => ?_) (fun c51 => ?_)
              · skip
                have hpos : (↑rp : Int) = (↑(sPos tx L i) : Int) := by
                  rcases hrp with q | q
                  · obtain ⟨q1, q2⟩ := q; subst q1; show _ = ((0 : Nat) : Int); omega
                  · omega
                have hos19 : fL h = .inr (11, [.int (zI (Z 0)), .ref (h + 1), .ref (h + 2), .ref (h + 3), .ref (h + 4), .ref (h + 5), .ref (h + 6), .ref (h + 7), .ref (h + 8), .int (zI (Z 9)), .int (zI (Z 10)), .int (zI a11), .int (zI (exR (sEx tx L ps P T sc (Z 12) i))), .int (zI (Z 13)), .int (zI (Z 14)), .int (zI 0), .int (zI (Z 16)), .ref (h + 9), .ref (h + 10), .ref (h + 11), .int (zI (↑L : Int)), .int (zI (↑(sPos tx L i) : Int)), .int (zI 0), .ref (h + 12)]) := by rw [← hpos]; exact hL0
                have hchi : chn tx L i := fun j hj => hrd.1 j (by omega)
                have hpi := chn_pos hL hchi
                have hci := (chn_in hL hchi).1
                have hcgi : (cq tx L i).1 = true := by
                  rcases Nat.lt_or_ge i N with q | q
                  · exact (hrd.1 i q).1
                  · rw [show i = N by omega]
                    rcases hrd.2 with q | q
                    · exact q.1
                    · have q2 := q.2; omega
                have hio := sEx_ok (T := T) (rs := Z 12) hL hrd.1 hps hok hv1 hsc6 (n := i) (by omega) (by omega)
                unfold rdIn at hci
                refine lv_aload_n hx hb dX9_readPlan_64 rfl (lv_at hl 0 rfl) ?_
                have hC20 := c_X9_command l g b0 n fL h (pu (pu (pu Z 11 a11) 12 (exR (sEx tx L ps P T sc (Z 12) i))) 15 0) In C1 tx L (sPos tx L i) hos19 hrg hL11 hTT hL htx (by omega) hL12
                refine g_callVv (ci := 11) (C := RX9) (T := TX9) (N := 24) (As := []) (rest := []) ⟨hx, hb, hml, hown, hts⟩ hK hM hC20 (cuV (n := 0) hts u_1561 u_1558 u_10 (by decide) u_1560 us_68 ⟨Nat.le_of_ble_eq_true rfl, Nat.le_of_ble_eq_true rfl⟩) ⟨by omega, by omega⟩ hos19 rfl rfl hl.1 rfl (Nat.le_of_ble_eq_true rfl) dX9_readPlan_65 ⟨Nat.zero_le _, Nat.zero_le _⟩ (fun f21 H locs hM hp22 => ?_)
                rcases hp22 with ⟨hcc23, hm24, ⟨C926, hj26, hcc23a, hcc23b, hcc23c, hcc23d⟩, o25⟩ | ⟨hcc27, hm28, ⟨C930, hj30⟩, o29⟩
                · skip
                  have ho31 : f21 h = .inr (11, [.int (zI (Z 0)), .ref (h + 1), .ref (h + 2), .ref (h + 3), .ref (h + 4), .ref (h + 5), .ref (h + 6), .ref (h + 7), .ref (h + 8), .int (zI (Z 9)), .int (zI (Z 10)), .int (zI a11), .int (zI (exR (sEx tx L ps P T sc (Z 12) i))), .int (zI (Z 13)), .int (zI (Z 14)), .int (zI 0), .int (zI (Z 16)), .ref (h + 9), .ref (h + 10), .ref (h + 11), .int (zI (↑L : Int)), .int (zI (↑(sCmd tx L (sPos tx L i)).2.1 : Int)), .int (zI 0), .ref (h + 12)]) := hm24
                  have hcc23a : C926 0 = (cq tx L i).2.2.1 := hcc23a
                  have hcc23b : C926 1 = (cq tx L i).2.2.2.1 := hcc23b
                  have hcc23c : C926 2 = (cq tx L i).2.2.2.2.1 := hcc23c
                  have hcc23d : C926 3 = (cq tx L i).2.2.2.2.2 := hcc23d
                  refine lv_aload_n hx hb dX9_readPlan_68 rfl (lv_at hl 0 rfl) ?_
                  refine lv_aload_n hx hb dX9_readPlan_69 rfl (lv_at hl 0 rfl) ?_
                  refine g_get (ci := 11) (v := .ref (h + 12)) (C := RX9) (T := TX9) (N := 24) hx hb hts iU_X9 hown hK hM ⟨by omega, by omega⟩ ho31 rfl 23 (by decide) (hts _ u_1167) (fun _ h9 => h9) rfl dX9_readPlan_70 ?_
                  refine g_iconst hx hb dX9_readPlan_73 ?_
                  refine g_iald hx hb hK hM ⟨by omega, by omega⟩ hj26 (by decide) (by decide) (by decide) dX9_readPlan_74 ?_
                  show W _ _ _ _ _ _ _ _ _ _ _ _ _ _ _ (F0 _ _ _ (.int (zI (C926 0)) :: _))
                  rw [hcc23a]
                  refine lv_aload_n hx hb dX9_readPlan_75 rfl (lv_at hl 0 rfl) ?_
                  refine g_get (ci := 11) (v := .ref (h + 12)) (C := RX9) (T := TX9) (N := 24) hx hb hts iU_X9 hown hK hM ⟨by omega, by omega⟩ ho31 rfl 23 (by decide) (hts _ u_1167) (fun _ h9 => h9) rfl dX9_readPlan_76 ?_
                  refine g_iconst hx hb dX9_readPlan_79 ?_
                  refine g_iald hx hb hK hM ⟨by omega, by omega⟩ hj26 (by decide) (by decide) (by decide) dX9_readPlan_80 ?_
                  show W _ _ _ _ _ _ _ _ _ _ _ _ _ _ _ (F0 _ _ _ (.int (zI (C926 1)) :: _))
                  rw [hcc23b]
                  refine lv_aload_n hx hb dX9_readPlan_81 rfl (lv_at hl 0 rfl) ?_
                  refine g_get (ci := 11) (v := .ref (h + 12)) (C := RX9) (T := TX9) (N := 24) hx hb hts iU_X9 hown hK hM ⟨by omega, by omega⟩ ho31 rfl 23 (by decide) (hts _ u_1167) (fun _ h9 => h9) rfl dX9_readPlan_82 ?_
                  refine g_iconst hx hb dX9_readPlan_85 ?_
                  refine g_iald hx hb hK hM ⟨by omega, by omega⟩ hj26 (by decide) (by decide) (by decide) dX9_readPlan_86 ?_
                  show W _ _ _ _ _ _ _ _ _ _ _ _ _ _ _ (F0 _ _ _ (.int (zI (C926 2)) :: _))
                  rw [hcc23c]
                  refine lv_aload_n hx hb dX9_readPlan_87 rfl (lv_at hl 0 rfl) ?_
                  refine g_get (ci := 11) (v := .ref (h + 12)) (C := RX9) (T := TX9) (N := 24) hx hb hts iU_X9 hown hK hM ⟨by omega, by omega⟩ ho31 rfl 23 (by decide) (hts _ u_1167) (fun _ h9 => h9) rfl dX9_readPlan_88 ?_
                  refine g_iconst hx hb dX9_readPlan_91 ?_
                  refine g_iald hx hb hK hM ⟨by omega, by omega⟩ hj26 (by decide) (by decide) (by decide) dX9_readPlan_92 ?_
                  show W _ _ _ _ _ _ _ _ _ _ _ _ _ _ _ (F0 _ _ _ (.int (zI (C926 3)) :: _))
                  rw [hcc23d]
                  refine g_iconst hx hb dX9_readPlan_93 ?_
                  have hf32 := hL1.kept (o25 (h + 1) (by omega))
                  have hf33 := hL3.kept (o25 (h + 3) (by omega))
                  have hf34 := hL4.kept (o25 (h + 4) (by omega))
                  have hf35 := hL5.kept (o25 (h + 5) (by omega))
                  have hf36 := hL9.kept (fun q h1 h2 => (o25 (q) (by omega)))
                  have hC37 := c_X9_step l g b0 n f21 h (pu (pu (pu (pu (pu (pu Z 11 a11) 12 (exR (sEx tx L ps P T sc (Z 12) i))) 15 0) 20 (↑L : Int)) 21 (↑(sCmd tx L (sPos tx L i)).2.1 : Int)) 22 0) M1 St1 Mn1 Pr B (exP (sEx tx L ps P T sc (Z 12) i)) (exT (sEx tx L ps P T sc (Z 12) i)) (exC (sEx tx L ps P T sc (Z 12) i)) pr ex ps (cq tx L i).2.2.1 (cq tx L i).2.2.2.1 (cq tx L i).2.2.2.2.1 (cq tx L i).2.2.2.2.2 0 (v0 + 541 * i) ho31 hrg hf32 hf33 hf34 hf35 hRL hz9 hps hpx (fun k8 hk8 _ => hio.2 k8 hk8) hf36 (hio.1 ps hps) (by omega) (by omega) hci.2.2.1 ⟨by omega, by omega⟩ ⟨by omega, by omega⟩ ⟨by omega, by omega⟩ ⟨by omega, by omega⟩ (by decide)
                  refine g_callVi (ci := 11) (C := RX9) (T := TX9) (N := 24) (As := [.int (zI ((cq tx L i).2.2.1)), .int (zI ((cq tx L i).2.2.2.1)), .int (zI ((cq tx L i).2.2.2.2.1)), .int (zI ((cq tx L i).2.2.2.2.2)), .int (zI 0)]) (rest := []) ⟨hx, hb, hml, hown, hts⟩ hK hM hC37 (cuV (n := 5) hts u_1225 u_1222 u_10 (by decide) u_1224 us_27 ⟨Nat.le_of_ble_eq_true rfl, Nat.le_of_ble_eq_true rfl⟩) ⟨by omega, by omega⟩ ho31 rfl rfl hl.1 rfl (Nat.le_of_ble_eq_true rfl) dX9_readPlan_94 ⟨Nat.zero_le _, Nat.zero_le _⟩ (fun r94 f38 H locs hM hp39 => ?_)
                  unfold po_X9_step at hp39
                  obtain ⟨M8, St8, Mn8, hj40, hi3_41, hi4_42, hr43, hm44, rfl, hs45, o46⟩ := hp39
                  have ho47 : f38 h = .inr (11, [.int (zI (Z 0)), .ref (h + 1), .ref (h + 2), .ref (h + 3), .ref (h + 4), .ref (h + 5), .ref (h + 6), .ref (h + 7), .ref (h + 8), .int (zI (Z 9)), .int (zI (Z 10)), .int (zI (↑(294 * ps) : Int)), .int (zI (if tRf (exP (sEx tx L ps P T sc (Z 12) i)) (exT (sEx tx L ps P T sc (Z 12) i)) (exC (sEx tx L ps P T sc (Z 12) i)) ps (cq tx L i).2.2.1 (cq tx L i).2.2.2.1 (cq tx L i).2.2.2.2.1 (cq tx L i).2.2.2.2.2 0 = 0 then exR (sEx tx L ps P T sc (Z 12) i) else tRf (exP (sEx tx L ps P T sc (Z 12) i)) (exT (sEx tx L ps P T sc (Z 12) i)) (exC (sEx tx L ps P T sc (Z 12) i)) ps (cq tx L i).2.2.1 (cq tx L i).2.2.2.1 (cq tx L i).2.2.2.2.1 (cq tx L i).2.2.2.2.2 0)), .int (zI (Z 13)), .int (zI (Z 14)), .int (zI (tRf (exP (sEx tx L ps P T sc (Z 12) i)) (exT (sEx tx L ps P T sc (Z 12) i)) (exC (sEx tx L ps P T sc (Z 12) i)) ps (cq tx L i).2.2.1 (cq tx L i).2.2.2.1 (cq tx L i).2.2.2.2.1 (cq tx L i).2.2.2.2.2 0)), .int (zI (Z 16)), .ref (h + 9), .ref (h + 10), .ref (h + 11), .int (zI (↑L : Int)), .int (zI (↑(sCmd tx L (sPos tx L i)).2.1 : Int)), .int (zI 0), .ref (h + 12)]) := hm44
                  refine lv_istore_n (lv' := [(2, .int (zI (tAn (exP (sEx tx L ps P T sc (Z 12) i)) (exT (sEx tx L ps P T sc (Z 12) i)) (exC (sEx tx L ps P T sc (Z 12) i)) ps (cq tx L i).2.2.1 (cq tx L i).2.2.2.1 (cq tx L i).2.2.2.2.1 (cq tx L i).2.2.2.2.2 0))), (0, .ref h), (1, .int (zI (↑i : Int)))]) hx hb dX9_readPlan_97 rfl hl (by decide) rfl (fun ls hl => ?_)
                  refine lv_iload_n hx hb dX9_readPlan_98 rfl (lv_at hl 2 rfl) ?_
                  refine lv_aload_n hx hb dX9_readPlan_99 rfl (lv_at hl 1 rfl) ?_
                  refine g_get (ci := 11) (v := .int (zI (tRf (exP (sEx tx L ps P T sc (Z 12) i)) (exT (sEx tx L ps P T sc (Z 12) i)) (exC (sEx tx L ps P T sc (Z 12) i)) ps (cq tx L i).2.2.1 (cq tx L i).2.2.2.1 (cq tx L i).2.2.2.2.1 (cq tx L i).2.2.2.2.2 0))) (C := RX9) (T := TX9) (N := 24) hx hb hts iU_X9 hown hK hM ⟨by omega, by omega⟩ ho47 rfl 15 (by decide) (hts _ u_1159) (fun _ h9 => h9) rfl dX9_readPlan_100 ?_
                  refine g_if_ne (tgt := 110) hx hb dX9_readPlan_103 (by decide) (by have := @ref_in (exP (sEx tx L ps P T sc (Z 12) i) ps) (cq tx L i).2.2.1 (cq tx L i).2.2.2.1 (cq tx L i).2.2.2.2.1 (cq tx L i).2.2.2.2.2 0 (60 ≤ exC (sEx tx L ps P T sc (Z 12) i) ps) _; unfold tRf; exact ⟨by omega, by omega⟩) (fun c103 => ?_) (fun c103 => ?_)
                  · skip
                    have hq7 : (sCmd tx L (sPos tx L i)).2.1 ≤ L := hci.2.1
                    refine g_iconst hx hb dX9_readPlan_110 ?_
                    refine g_iadd hx hb dX9_readPlan_111 ?_
                    refine lv_istore_n (lv' := [(1, .int (zI ((↑i : Int) + 0))), (2, .int (zI (tAn (exP (sEx tx L ps P T sc (Z 12) i)) (exT (sEx tx L ps P T sc (Z 12) i)) (exC (sEx tx L ps P T sc (Z 12) i)) ps (cq tx L i).2.2.1 (cq tx L i).2.2.2.1 (cq tx L i).2.2.2.2.1 (cq tx L i).2.2.2.2.2 0))), (0, .ref h)]) hx hb dX9_readPlan_112 rfl hl (by decide) rfl (fun ls hl => ?_)
                    refine lv_goto (tgt := 32) hx hb dX9_readPlan_113 (by decide) ?_
                    refine lv_aload_n hx hb dX9_readPlan_32 rfl (lv_at hl 2 rfl) ?_
                    refine g_get (ci := 11) (v := .int (zI (↑(sCmd tx L (sPos tx L i)).2.1 : Int))) (C := RX9) (T := TX9) (N := 24) hx hb hts iU_X9 hown hK hM ⟨by omega, by omega⟩ ho47 rfl 21 (by decide) (hts _ u_1165) (fun _ h9 => h9) rfl dX9_readPlan_33 ?_
                    refine lv_aload_n hx hb dX9_readPlan_36 rfl (lv_at hl 2 rfl) ?_
                    refine g_get (ci := 11) (v := .int (zI (↑L : Int))) (C := RX9) (T := TX9) (N := 24) hx hb hts iU_X9 hown hK hM ⟨by omega, by omega⟩ ho47 rfl 20 (by decide) (hts _ u_1164) (fun _ h9 => h9) rfl dX9_readPlan_37 ?_
                    refine g_icmp_ge (tgt := 116) hx hb dX9_readPlan_40 (by decide) ⟨by omega, by omega⟩ ⟨by omega, by omega⟩ (fun c40 => ?_) (fun c40 => ?_)
                    · skip
                      refine lv_aload_n hx hb dX9_readPlan_116 rfl (lv_at hl 2 rfl) ?_
                      refine g_iconst hx hb dX9_readPlan_117 ?_
                      refine g_put (ci := 11) (v := .int (zI 0)) (ty := .int) (C := RX9) (T := TX9) (N := 24) hx hb hts iU_X9 tyX9 tyX9_ok nmX9 hown hK hM ⟨by omega, by omega⟩ ho47 rfl 20 (by decide) (hts _ u_1164) (fun _ h9 => h9) rfl (by decide +kernel) rfl rfl (Nat.le_of_ble_eq_true rfl) dX9_readPlan_118 (fun f48 H locs hM hf50 o49 => ?_)
                      have hf50 : f48 (h) = .inr (11, [.int (zI (Z 0)), .ref (h + 1), .ref (h + 2), .ref (h + 3), .ref (h + 4), .ref (h + 5), .ref (h + 6), .ref (h + 7), .ref (h + 8), .int (zI (Z 9)), .int (zI (Z 10)), .int (zI (↑(294 * ps) : Int)), .int (zI (if tRf (exP (sEx tx L ps P T sc (Z 12) i)) (exT (sEx tx L ps P T sc (Z 12) i)) (exC (sEx tx L ps P T sc (Z 12) i)) ps (cq tx L i).2.2.1 (cq tx L i).2.2.2.1 (cq tx L i).2.2.2.2.1 (cq tx L i).2.2.2.2.2 0 = 0 then exR (sEx tx L ps P T sc (Z 12) i) else tRf (exP (sEx tx L ps P T sc (Z 12) i)) (exT (sEx tx L ps P T sc (Z 12) i)) (exC (sEx tx L ps P T sc (Z 12) i)) ps (cq tx L i).2.2.1 (cq tx L i).2.2.2.1 (cq tx L i).2.2.2.2.1 (cq tx L i).2.2.2.2.2 0)), .int (zI (Z 13)), .int (zI (Z 14)), .int (zI (tRf (exP (sEx tx L ps P T sc (Z 12) i)) (exT (sEx tx L ps P T sc (Z 12) i)) (exC (sEx tx L ps P T sc (Z 12) i)) ps (cq tx L i).2.2.1 (cq tx L i).2.2.2.1 (cq tx L i).2.2.2.2.1 (cq tx L i).2.2.2.2.2 0)), .int (zI (Z 16)), .ref (h + 9), .ref (h + 10), .ref (h + 11), .int (zI 0), .int (zI (↑(sCmd tx L (sPos tx L i)).2.1 : Int)), .int (zI 0), .ref (h + 12)]) := hf50
                      refine lv_iload_n hx hb dX9_readPlan_121 rfl (lv_at hl 0 rfl) ?_
                      have hf51 := hj40.kept (o49 (h + 1) (by omega))
                      have hf52 := hi3_41.kept (o49 (h + 3) (by omega))
                      have hf53 := hi4_42.kept (o49 (h + 4) (by omega))
                      have hf54 := hj26.kept ((o49 (h + 12) (by omega)).trans (o46 (h + 12) (by omega)))
                      have hf55 := hs45.kept (fun q h1 h2 => (o49 (q) (by omega)))
                      refine g_iret hx hb hr hlk hK hM dX9_readPlan_122 ?_
                      have hse : (sEx tx L ps P T sc (Z 12) (i + 1)) = (true, i, exP (sEx tx L ps P T sc (Z 12) i), exT (sEx tx L ps P T sc (Z 12) i), exC (sEx tx L ps P T sc (Z 12) i), tRf (exP (sEx tx L ps P T sc (Z 12) i)) (exT (sEx tx L ps P T sc (Z 12) i)) (exC (sEx tx L ps P T sc (Z 12) i)) ps (cq tx L i).2.2.1 (cq tx L i).2.2.2.1 (cq tx L i).2.2.2.2.1 (cq tx L i).2.2.2.2.2 0) := by
                        show sExT tx L ps i (sEx tx L ps P T sc (Z 12) i) = _
                        unfold sExT
                        rw [if_neg (by rw [hns]; exact Bool.false_ne_true), if_neg c103]
                      have hst := sEx_stop (tx := tx) (L := L) (ps := ps) (P := P) (T := T) (sc := sc) (rs := Z 12) (i := i + 1) (by rw [hse]) (N + 1 - (i + 1))
                      rw [show i + 1 + (N + 1 - (i + 1)) = N + 1 by omega, hse] at hst
                      have q8 := hr43
                      unfold tP tT tS at q8
                      rw [if_neg c103, if_neg c103, if_neg c103] at q8
                      refine ⟨-1, N, N + 1, hrd, (if_pos rfl).symm, ?_, ⟨_, _, _, hf51, hf52, hf53, by rw [hst]; exact q8⟩, ⟨(pu (pu (pu (pu (pu (pu Z 11 (↑(294 * ps) : Int)) 12 (if tRf (exP (sEx tx L ps P T sc (Z 12) i)) (exT (sEx tx L ps P T sc (Z 12) i)) (exC (sEx tx L ps P T sc (Z 12) i)) ps (cq tx L i).2.2.1 (cq tx L i).2.2.2.1 (cq tx L i).2.2.2.2.1 (cq tx L i).2.2.2.2.2 0 = 0 then exR (sEx tx L ps P T sc (Z 12) i) else tRf (exP (sEx tx L ps P T sc (Z 12) i)) (exT (sEx tx L ps P T sc (Z 12) i)) (exC (sEx tx L ps P T sc (Z 12) i)) ps (cq tx L i).2.2.1 (cq tx L i).2.2.2.1 (cq tx L i).2.2.2.2.1 (cq tx L i).2.2.2.2.2 0)) 15 (tRf (exP (sEx tx L ps P T sc (Z 12) i)) (exT (sEx tx L ps P T sc (Z 12) i)) (exC (sEx tx L ps P T sc (Z 12) i)) ps (cq tx L i).2.2.1 (cq tx L i).2.2.2.1 (cq tx L i).2.2.2.2.1 (cq tx L i).2.2.2.2.2 0)) 20 0) 21 (↑(sCmd tx L (sPos tx L i)).2.1 : Int)) 22 0), hf50, ?_, rfl, fun j h1 h2 h3 h4 h5 h6 => by rw [pu_n (by omega), pu_n (by omega), pu_n (by omega), pu_n (by omega), pu_n (by omega), pu_n (by omega)]⟩, hf55, ⟨_, hf54⟩, fun q hq => ((o49 (q) (by omega)).trans ((o46 (q) (by omega)).trans ((o25 (q) (by omega)).trans (hfr (q) (by omega)))))⟩
                      · rw [if_pos rfl, hst]; exact congrArg zI (by show (↑i : Int) + 0 = ↑i; omega)
                      · rw [hst]; exact if_neg c103
                    · skip
                      refine lv_aload_n hx hb dX9_readPlan_43 rfl (lv_at hl 2 rfl) ?_
                      refine g_get (ci := 11) (v := .int (zI (tRf (exP (sEx tx L ps P T sc (Z 12) i)) (exT (sEx tx L ps P T sc (Z 12) i)) (exC (sEx tx L ps P T sc (Z 12) i)) ps (cq tx L i).2.2.1 (cq tx L i).2.2.2.1 (cq tx L i).2.2.2.2.1 (cq tx L i).2.2.2.2.2 0))) (C := RX9) (T := TX9) (N := 24) hx hb hts iU_X9 hown hK hM ⟨by omega, by omega⟩ ho47 rfl 15 (by decide) (hts _ u_1159) (fun _ h9 => h9) rfl dX9_readPlan_44 ?_
                      refine g_if_ne (tgt := 116) hx hb dX9_readPlan_47 (by decide) (by have := @ref_in (exP (sEx tx L ps P T sc (Z 12) i) ps) (cq tx L i).2.2.1 (cq tx L i).2.2.2.1 (cq tx L i).2.2.2.2.1 (cq tx L i).2.2.2.2.2 0 (60 ≤ exC (sEx tx L ps P T sc (Z 12) i) ps) _; unfold tRf; exact ⟨by omega, by omega⟩) (fun c47 => ?_) (fun c47 => ?_)
                      · skip
                        refine lv_aload_n hx hb dX9_readPlan_116 rfl (lv_at hl 2 rfl) ?_
                        refine g_iconst hx hb dX9_readPlan_117 ?_
                        refine g_put (ci := 11) (v := .int (zI 0)) (ty := .int) (C := RX9) (T := TX9) (N := 24) hx hb hts iU_X9 tyX9 tyX9_ok nmX9 hown hK hM ⟨by omega, by omega⟩ ho47 rfl 20 (by decide) (hts _ u_1164) (fun _ h9 => h9) rfl (by decide +kernel) rfl rfl (Nat.le_of_ble_eq_true rfl) dX9_readPlan_118 (fun f56 H locs hM hf58 o57 => ?_)
                        have hf58 : f56 (h) = .inr (11, [.int (zI (Z 0)), .ref (h + 1), .ref (h + 2), .ref (h + 3), .ref (h + 4), .ref (h + 5), .ref (h + 6), .ref (h + 7), .ref (h + 8), .int (zI (Z 9)), .int (zI (Z 10)), .int (zI (↑(294 * ps) : Int)), .int (zI (if tRf (exP (sEx tx L ps P T sc (Z 12) i)) (exT (sEx tx L ps P T sc (Z 12) i)) (exC (sEx tx L ps P T sc (Z 12) i)) ps (cq tx L i).2.2.1 (cq tx L i).2.2.2.1 (cq tx L i).2.2.2.2.1 (cq tx L i).2.2.2.2.2 0 = 0 then exR (sEx tx L ps P T sc (Z 12) i) else tRf (exP (sEx tx L ps P T sc (Z 12) i)) (exT (sEx tx L ps P T sc (Z 12) i)) (exC (sEx tx L ps P T sc (Z 12) i)) ps (cq tx L i).2.2.1 (cq tx L i).2.2.2.1 (cq tx L i).2.2.2.2.1 (cq tx L i).2.2.2.2.2 0)), .int (zI (Z 13)), .int (zI (Z 14)), .int (zI (tRf (exP (sEx tx L ps P T sc (Z 12) i)) (exT (sEx tx L ps P T sc (Z 12) i)) (exC (sEx tx L ps P T sc (Z 12) i)) ps (cq tx L i).2.2.1 (cq tx L i).2.2.2.1 (cq tx L i).2.2.2.2.1 (cq tx L i).2.2.2.2.2 0)), .int (zI (Z 16)), .ref (h + 9), .ref (h + 10), .ref (h + 11), .int (zI 0), .int (zI (↑(sCmd tx L (sPos tx L i)).2.1 : Int)), .int (zI 0), .ref (h + 12)]) := hf58
                        refine lv_iload_n hx hb dX9_readPlan_121 rfl (lv_at hl 0 rfl) ?_
                        have hf59 := hj40.kept (o57 (h + 1) (by omega))
                        have hf60 := hi3_41.kept (o57 (h + 3) (by omega))
                        have hf61 := hi4_42.kept (o57 (h + 4) (by omega))
                        have hf62 := hj26.kept ((o57 (h + 12) (by omega)).trans (o46 (h + 12) (by omega)))
                        have hf63 := hs45.kept (fun q h1 h2 => (o57 (q) (by omega)))
                        refine g_iret hx hb hr hlk hK hM dX9_readPlan_122 ?_
                        have hse : (sEx tx L ps P T sc (Z 12) (i + 1)) = (true, i, exP (sEx tx L ps P T sc (Z 12) i), exT (sEx tx L ps P T sc (Z 12) i), exC (sEx tx L ps P T sc (Z 12) i), tRf (exP (sEx tx L ps P T sc (Z 12) i)) (exT (sEx tx L ps P T sc (Z 12) i)) (exC (sEx tx L ps P T sc (Z 12) i)) ps (cq tx L i).2.2.1 (cq tx L i).2.2.2.1 (cq tx L i).2.2.2.2.1 (cq tx L i).2.2.2.2.2 0) := by
                          show sExT tx L ps i (sEx tx L ps P T sc (Z 12) i) = _
                          unfold sExT
                          rw [if_neg (by rw [hns]; exact Bool.false_ne_true), if_neg c103]
                        have hst := sEx_stop (tx := tx) (L := L) (ps := ps) (P := P) (T := T) (sc := sc) (rs := Z 12) (i := i + 1) (by rw [hse]) (N + 1 - (i + 1))
                        rw [show i + 1 + (N + 1 - (i + 1)) = N + 1 by omega, hse] at hst
                        have q8 := hr43
                        unfold tP tT tS at q8
                        rw [if_neg c103, if_neg c103, if_neg c103] at q8
                        refine ⟨-1, N, N + 1, hrd, (if_pos rfl).symm, ?_, ⟨_, _, _, hf59, hf60, hf61, by rw [hst]; exact q8⟩, ⟨(pu (pu (pu (pu (pu (pu Z 11 (↑(294 * ps) : Int)) 12 (if tRf (exP (sEx tx L ps P T sc (Z 12) i)) (exT (sEx tx L ps P T sc (Z 12) i)) (exC (sEx tx L ps P T sc (Z 12) i)) ps (cq tx L i).2.2.1 (cq tx L i).2.2.2.1 (cq tx L i).2.2.2.2.1 (cq tx L i).2.2.2.2.2 0 = 0 then exR (sEx tx L ps P T sc (Z 12) i) else tRf (exP (sEx tx L ps P T sc (Z 12) i)) (exT (sEx tx L ps P T sc (Z 12) i)) (exC (sEx tx L ps P T sc (Z 12) i)) ps (cq tx L i).2.2.1 (cq tx L i).2.2.2.1 (cq tx L i).2.2.2.2.1 (cq tx L i).2.2.2.2.2 0)) 15 (tRf (exP (sEx tx L ps P T sc (Z 12) i)) (exT (sEx tx L ps P T sc (Z 12) i)) (exC (sEx tx L ps P T sc (Z 12) i)) ps (cq tx L i).2.2.1 (cq tx L i).2.2.2.1 (cq tx L i).2.2.2.2.1 (cq tx L i).2.2.2.2.2 0)) 20 0) 21 (↑(sCmd tx L (sPos tx L i)).2.1 : Int)) 22 0), hf58, ?_, rfl, fun j h1 h2 h3 h4 h5 h6 => by rw [pu_n (by omega), pu_n (by omega), pu_n (by omega), pu_n (by omega), pu_n (by omega), pu_n (by omega)]⟩, hf63, ⟨_, hf62⟩, fun q hq => ((o57 (q) (by omega)).trans ((o46 (q) (by omega)).trans ((o25 (q) (by omega)).trans (hfr (q) (by omega)))))⟩
                        · rw [if_pos rfl, hst]; exact congrArg zI (by show (↑i : Int) + 0 = ↑i; omega)
                        · rw [hst]; exact if_neg c103
                      · skip
                        exact absurd c47 c103
                  · skip
                    have hse : (sEx tx L ps P T sc (Z 12) (i + 1)) = (false, i + 1, tP (exP (sEx tx L ps P T sc (Z 12) i)) (exT (sEx tx L ps P T sc (Z 12) i)) (exC (sEx tx L ps P T sc (Z 12) i)) ps (cq tx L i).2.2.1 (cq tx L i).2.2.2.1 (cq tx L i).2.2.2.2.1 (cq tx L i).2.2.2.2.2 0, tT (exP (sEx tx L ps P T sc (Z 12) i)) (exT (sEx tx L ps P T sc (Z 12) i)) (exC (sEx tx L ps P T sc (Z 12) i)) ps (cq tx L i).2.2.1 (cq tx L i).2.2.2.1 (cq tx L i).2.2.2.2.1 (cq tx L i).2.2.2.2.2 0, tS (exP (sEx tx L ps P T sc (Z 12) i)) (exT (sEx tx L ps P T sc (Z 12) i)) (exC (sEx tx L ps P T sc (Z 12) i)) ps (cq tx L i).2.2.1 (cq tx L i).2.2.2.1 (cq tx L i).2.2.2.2.1 (cq tx L i).2.2.2.2.2 0, exR (sEx tx L ps P T sc (Z 12) i)) := by
                      show sExT tx L ps i (sEx tx L ps P T sc (Z 12) i) = _
                      unfold sExT
                      rw [if_neg (by rw [hns]; exact Bool.false_ne_true), if_pos c103]
                    have hos64 : f38 h = .inr (11, [.int (zI (Z 0)), .ref (h + 1), .ref (h + 2), .ref (h + 3), .ref (h + 4), .ref (h + 5), .ref (h + 6), .ref (h + 7), .ref (h + 8), .int (zI (Z 9)), .int (zI (Z 10)), .int (zI (↑(294 * ps) : Int)), .int (zI (exR (sEx tx L ps P T sc (Z 12) (i + 1)))), .int (zI (Z 13)), .int (zI (Z 14)), .int (zI 0), .int (zI (Z 16)), .ref (h + 9), .ref (h + 10), .ref (h + 11), .int (zI (↑L : Int)), .int (zI (↑(sCmd tx L (sPos tx L i)).2.1 : Int)), .int (zI 0), .ref (h + 12)]) := by have q9 := ho47; rw [if_pos c103, c103] at q9; rw [hse]; exact q9
                    refine g_iconst hx hb dX9_readPlan_106 ?_
                    refine lv_goto (tgt := 111) hx hb dX9_readPlan_107 (by decide) ?_
                    refine g_iadd hx hb dX9_readPlan_111 ?_
                    refine lv_istore_n (lv' := [(1, .int (zI ((↑i : Int) + 1))), (2, .int (zI (tAn (exP (sEx tx L ps P T sc (Z 12) i)) (exT (sEx tx L ps P T sc (Z 12) i)) (exC (sEx tx L ps P T sc (Z 12) i)) ps (cq tx L i).2.2.1 (cq tx L i).2.2.2.1 (cq tx L i).2.2.2.2.1 (cq tx L i).2.2.2.2.2 0))), (0, .ref h)]) hx hb dX9_readPlan_112 rfl hl (by decide) rfl (fun ls hl => ?_)
                    refine lv_goto (tgt := 32) hx hb dX9_readPlan_113 (by decide) ?_
                    have hf65 := hf35.kept (o46 (h + 5) (by omega))
                    have hf66 := hL11.kept ((o46 (h + 11) (by omega)).trans (o25 (h + 11) (by omega)))
                    have hf67 := hj26.kept (o46 (h + 12) (by omega))
                    exact ih32 (i + 1) ((cq tx L i).2.1) (↑(294 * ps) : Int) _ _ _ _ f38 _ _ _ (by omega) (by omega) (by rw [hse]) (Or.inr ⟨by omega, rfl⟩) (by have q8 := hr43; rw [hse]; exact q8) (fun q hq => ((o46 (q) (by omega)).trans ((o25 (q) (by omega)).trans (hfr (q) (by omega))))) hM hos64 hj40 hi3_41 hi4_42 hf65 hs45 hf66 hf67 (lv_sub hl [2, 0] rfl)
                · skip
                  exact absurd (hcc27.symm.trans hcgi) (by decide)
              · skip
                refine lv_aload_n hx hb dX9_readPlan_54 rfl (lv_at hl 0 rfl) ?_
                refine lv_dup hx hb dX9_readPlan_55 rfl ?_
                refine g_get (ci := 11) (v := .int (zI (↑rp : Int))) (C := RX9) (T := TX9) (N := 24) hx hb hts iU_X9 hown hK hM ⟨by omega, by omega⟩ hL0 rfl 21 (by decide) (hts _ u_1165) (fun _ h9 => h9) rfl dX9_readPlan_56 ?_
                refine g_iconst hx hb dX9_readPlan_59 ?_
                refine g_iadd hx hb dX9_readPlan_60 ?_
                refine g_put (ci := 11) (v := .int (zI ((↑rp : Int) + 1))) (ty := .int) (C := RX9) (T := TX9) (N := 24) hx hb hts iU_X9 tyX9 tyX9_ok nmX9 hown hK hM ⟨by omega, by omega⟩ hL0 rfl 21 (by decide) (hts _ u_1165) (fun _ h9 => h9) rfl (by decide +kernel) rfl rfl (Nat.le_of_ble_eq_true rfl) dX9_readPlan_61 (fun f68 H locs hM hf70 o69 => ?_)
                have hf70 : f68 (h) = .inr (11, [.int (zI (Z 0)), .ref (h + 1), .ref (h + 2), .ref (h + 3), .ref (h + 4), .ref (h + 5), .ref (h + 6), .ref (h + 7), .ref (h + 8), .int (zI (Z 9)), .int (zI (Z 10)), .int (zI a11), .int (zI (exR (sEx tx L ps P T sc (Z 12) i))), .int (zI (Z 13)), .int (zI (Z 14)), .int (zI 0), .int (zI (Z 16)), .ref (h + 9), .ref (h + 10), .ref (h + 11), .int (zI (↑L : Int)), .int (zI ((↑rp : Int) + 1)), .int (zI 0), .ref (h + 12)]) := hf70
                have hpos : ((↑rp : Int) + 1) = (↑(sPos tx L i) : Int) := by
                  rcases hrp with q | q
                  · obtain ⟨q1, q2⟩ := q; subst q1; show _ = ((0 : Nat) : Int); omega
                  · omega
                have hos71 : f68 h = .inr (11, [.int (zI (Z 0)), .ref (h + 1), .ref (h + 2), .ref (h + 3), .ref (h + 4), .ref (h + 5), .ref (h + 6), .ref (h + 7), .ref (h + 8), .int (zI (Z 9)), .int (zI (Z 10)), .int (zI a11), .int (zI (exR (sEx tx L ps P T sc (Z 12) i))), .int (zI (Z 13)), .int (zI (Z 14)), .int (zI 0), .int (zI (Z 16)), .ref (h + 9), .ref (h + 10), .ref (h + 11), .int (zI (↑L : Int)), .int (zI (↑(sPos tx L i) : Int)), .int (zI 0), .ref (h + 12)]) := by rw [← hpos]; exact hf70
                have hchi : chn tx L i := fun j hj => hrd.1 j (by omega)
                have hpi := chn_pos hL hchi
                have hci := (chn_in hL hchi).1
                have hcgi : (cq tx L i).1 = true := by
                  rcases Nat.lt_or_ge i N with q | q
                  · exact (hrd.1 i q).1
                  · rw [show i = N by omega]
                    rcases hrd.2 with q | q
                    · exact q.1
                    · have q2 := q.2; omega
                have hio := sEx_ok (T := T) (rs := Z 12) hL hrd.1 hps hok hv1 hsc6 (n := i) (by omega) (by omega)
                unfold rdIn at hci
                refine lv_aload_n hx hb dX9_readPlan_64 rfl (lv_at hl 0 rfl) ?_
                have hf72 := hL11.kept (o69 (h + 11) (by omega))
                have hf73 := hL12.kept (o69 (h + 12) (by omega))
                have hC74 := c_X9_command l g b0 n f68 h (pu (pu (pu Z 11 a11) 12 (exR (sEx tx L ps P T sc (Z 12) i))) 15 0) In C1 tx L (sPos tx L i) hos71 hrg hf72 hTT hL htx (by omega) hf73
                refine g_callVv (ci := 11) (C := RX9) (T := TX9) (N := 24) (As := []) (rest := []) ⟨hx, hb, hml, hown, hts⟩ hK hM hC74 (cuV (n := 0) hts u_1561 u_1558 u_10 (by decide) u_1560 us_68 ⟨Nat.le_of_ble_eq_true rfl, Nat.le_of_ble_eq_true rfl⟩) ⟨by omega, by omega⟩ hos71 rfl rfl hl.1 rfl (Nat.le_of_ble_eq_true rfl) dX9_readPlan_65 ⟨Nat.zero_le _, Nat.zero_le _⟩ (fun f75 H locs hM hp76 => ?_)
                rcases hp76 with ⟨hcc77, hm78, ⟨C980, hj80, hcc77a, hcc77b, hcc77c, hcc77d⟩, o79⟩ | ⟨hcc81, hm82, ⟨C984, hj84⟩, o83⟩
                · skip
                  have ho85 : f75 h = .inr (11, [.int (zI (Z 0)), .ref (h + 1), .ref (h + 2), .ref (h + 3), .ref (h + 4), .ref (h + 5), .ref (h + 6), .ref (h + 7), .ref (h + 8), .int (zI (Z 9)), .int (zI (Z 10)), .int (zI a11), .int (zI (exR (sEx tx L ps P T sc (Z 12) i))), .int (zI (Z 13)), .int (zI (Z 14)), .int (zI 0), .int (zI (Z 16)), .ref (h + 9), .ref (h + 10), .ref (h + 11), .int (zI (↑L : Int)), .int (zI (↑(sCmd tx L (sPos tx L i)).2.1 : Int)), .int (zI 0), .ref (h + 12)]) := hm78
                  have hcc77a : C980 0 = (cq tx L i).2.2.1 := hcc77a
                  have hcc77b : C980 1 = (cq tx L i).2.2.2.1 := hcc77b
                  have hcc77c : C980 2 = (cq tx L i).2.2.2.2.1 := hcc77c
                  have hcc77d : C980 3 = (cq tx L i).2.2.2.2.2 := hcc77d
                  refine lv_aload_n hx hb dX9_readPlan_68 rfl (lv_at hl 0 rfl) ?_
                  refine lv_aload_n hx hb dX9_readPlan_69 rfl (lv_at hl 0 rfl) ?_
                  refine g_get (ci := 11) (v := .ref (h + 12)) (C := RX9) (T := TX9) (N := 24) hx hb hts iU_X9 hown hK hM ⟨by omega, by omega⟩ ho85 rfl 23 (by decide) (hts _ u_1167) (fun _ h9 => h9) rfl dX9_readPlan_70 ?_
                  refine g_iconst hx hb dX9_readPlan_73 ?_
                  refine g_iald hx hb hK hM ⟨by omega, by omega⟩ hj80 (by decide) (by decide) (by decide) dX9_readPlan_74 ?_
                  show W _ _ _ _ _ _ _ _ _ _ _ _ _ _ _ (F0 _ _ _ (.int (zI (C980 0)) :: _))
                  rw [hcc77a]
                  refine lv_aload_n hx hb dX9_readPlan_75 rfl (lv_at hl 0 rfl) ?_
                  refine g_get (ci := 11) (v := .ref (h + 12)) (C := RX9) (T := TX9) (N := 24) hx hb hts iU_X9 hown hK hM ⟨by omega, by omega⟩ ho85 rfl 23 (by decide) (hts _ u_1167) (fun _ h9 => h9) rfl dX9_readPlan_76 ?_
                  refine g_iconst hx hb dX9_readPlan_79 ?_
                  refine g_iald hx hb hK hM ⟨by omega, by omega⟩ hj80 (by decide) (by decide) (by decide) dX9_readPlan_80 ?_
                  show W _ _ _ _ _ _ _ _ _ _ _ _ _ _ _ (F0 _ _ _ (.int (zI (C980 1)) :: _))
                  rw [hcc77b]
                  refine lv_aload_n hx hb dX9_readPlan_81 rfl (lv_at hl 0 rfl) ?_
                  refine g_get (ci := 11) (v := .ref (h + 12)) (C := RX9) (T := TX9) (N := 24) hx hb hts iU_X9 hown hK hM ⟨by omega, by omega⟩ ho85 rfl 23 (by decide) (hts _ u_1167) (fun _ h9 => h9) rfl dX9_readPlan_82 ?_
                  refine g_iconst hx hb dX9_readPlan_85 ?_
                  refine g_iald hx hb hK hM ⟨by omega, by omega⟩ hj80 (by decide) (by decide) (by decide) dX9_readPlan_86 ?_
                  show W _ _ _ _ _ _ _ _ _ _ _ _ _ _ _ (F0 _ _ _ (.int (zI (C980 2)) :: _))
                  rw [hcc77c]
                  refine lv_aload_n hx hb dX9_readPlan_87 rfl (lv_at hl 0 rfl) ?_
                  refine g_get (ci := 11) (v := .ref (h + 12)) (C := RX9) (T := TX9) (N := 24) hx hb hts iU_X9 hown hK hM ⟨by omega, by omega⟩ ho85 rfl 23 (by decide) (hts _ u_1167) (fun _ h9 => h9) rfl dX9_readPlan_88 ?_
                  refine g_iconst hx hb dX9_readPlan_91 ?_
                  refine g_iald hx hb hK hM ⟨by omega, by omega⟩ hj80 (by decide) (by decide) (by decide) dX9_readPlan_92 ?_
                  show W _ _ _ _ _ _ _ _ _ _ _ _ _ _ _ (F0 _ _ _ (.int (zI (C980 3)) :: _))
                  rw [hcc77d]
                  refine g_iconst hx hb dX9_readPlan_93 ?_
                  have hf86 := hL1.kept ((o79 (h + 1) (by omega)).trans (o69 (h + 1) (by omega)))
                  have hf87 := hL3.kept ((o79 (h + 3) (by omega)).trans (o69 (h + 3) (by omega)))
                  have hf88 := hL4.kept ((o79 (h + 4) (by omega)).trans (o69 (h + 4) (by omega)))
                  have hf89 := hL5.kept ((o79 (h + 5) (by omega)).trans (o69 (h + 5) (by omega)))
                  have hf90 := hL9.kept (fun q h1 h2 => ((o79 (q) (by omega)).trans (o69 (q) (by omega))))
                  have hC91 := c_X9_step l g b0 n f75 h (pu (pu (pu (pu (pu (pu Z 11 a11) 12 (exR (sEx tx L ps P T sc (Z 12) i))) 15 0) 20 (↑L : Int)) 21 (↑(sCmd tx L (sPos tx L i)).2.1 : Int)) 22 0) M1 St1 Mn1 Pr B (exP (sEx tx L ps P T sc (Z 12) i)) (exT (sEx tx L ps P T sc (Z 12) i)) (exC (sEx tx L ps P T sc (Z 12) i)) pr ex ps (cq tx L i).2.2.1 (cq tx L i).2.2.2.1 (cq tx L i).2.2.2.2.1 (cq tx L i).2.2.2.2.2 0 (v0 + 541 * i) ho85 hrg hf86 hf87 hf88 hf89 hRL hz9 hps hpx (fun k8 hk8 _ => hio.2 k8 hk8) hf90 (hio.1 ps hps) (by omega) (by omega) hci.2.2.1 ⟨by omega, by omega⟩ ⟨by omega, by omega⟩ ⟨by omega, by omega⟩ ⟨by omega, by omega⟩ (by decide)
                  refine g_callVi (ci := 11) (C := RX9) (T := TX9) (N := 24) (As := [.int (zI ((cq tx L i).2.2.1)), .int (zI ((cq tx L i).2.2.2.1)), .int (zI ((cq tx L i).2.2.2.2.1)), .int (zI ((cq tx L i).2.2.2.2.2)), .int (zI 0)]) (rest := []) ⟨hx, hb, hml, hown, hts⟩ hK hM hC91 (cuV (n := 5) hts u_1225 u_1222 u_10 (by decide) u_1224 us_27 ⟨Nat.le_of_ble_eq_true rfl, Nat.le_of_ble_eq_true rfl⟩) ⟨by omega, by omega⟩ ho85 rfl rfl hl.1 rfl (Nat.le_of_ble_eq_true rfl) dX9_readPlan_94 ⟨Nat.zero_le _, Nat.zero_le _⟩ (fun r94 f92 H locs hM hp93 => ?_)
                  unfold po_X9_step at hp93
                  obtain ⟨M8, St8, Mn8, hj94, hi3_95, hi4_96, hr97, hm98, rfl, hs99, o100⟩ := hp93
                  have ho101 : f92 h = .inr (11, [.int (zI (Z 0)), .ref (h + 1), .ref (h + 2), .ref (h + 3), .ref (h + 4), .ref (h + 5), .ref (h + 6), .ref (h + 7), .ref (h + 8), .int (zI (Z 9)), .int (zI (Z 10)), .int (zI (↑(294 * ps) : Int)), .int (zI (if tRf (exP (sEx tx L ps P T sc (Z 12) i)) (exT (sEx tx L ps P T sc (Z 12) i)) (exC (sEx tx L ps P T sc (Z 12) i)) ps (cq tx L i).2.2.1 (cq tx L i).2.2.2.1 (cq tx L i).2.2.2.2.1 (cq tx L i).2.2.2.2.2 0 = 0 then exR (sEx tx L ps P T sc (Z 12) i) else tRf (exP (sEx tx L ps P T sc (Z 12) i)) (exT (sEx tx L ps P T sc (Z 12) i)) (exC (sEx tx L ps P T sc (Z 12) i)) ps (cq tx L i).2.2.1 (cq tx L i).2.2.2.1 (cq tx L i).2.2.2.2.1 (cq tx L i).2.2.2.2.2 0)), .int (zI (Z 13)), .int (zI (Z 14)), .int (zI (tRf (exP (sEx tx L ps P T sc (Z 12) i)) (exT (sEx tx L ps P T sc (Z 12) i)) (exC (sEx tx L ps P T sc (Z 12) i)) ps (cq tx L i).2.2.1 (cq tx L i).2.2.2.1 (cq tx L i).2.2.2.2.1 (cq tx L i).2.2.2.2.2 0)), .int (zI (Z 16)), .ref (h + 9), .ref (h + 10), .ref (h + 11), .int (zI (↑L : Int)), .int (zI (↑(sCmd tx L (sPos tx L i)).2.1 : Int)), .int (zI 0), .ref (h + 12)]) := hm98
                  refine lv_istore_n (lv' := [(2, .int (zI (tAn (exP (sEx tx L ps P T sc (Z 12) i)) (exT (sEx tx L ps P T sc (Z 12) i)) (exC (sEx tx L ps P T sc (Z 12) i)) ps (cq tx L i).2.2.1 (cq tx L i).2.2.2.1 (cq tx L i).2.2.2.2.1 (cq tx L i).2.2.2.2.2 0))), (0, .ref h), (1, .int (zI (↑i : Int)))]) hx hb dX9_readPlan_97 rfl hl (by decide) rfl (fun ls hl => ?_)
                  refine lv_iload_n hx hb dX9_readPlan_98 rfl (lv_at hl 2 rfl) ?_
                  refine lv_aload_n hx hb dX9_readPlan_99 rfl (lv_at hl 1 rfl) ?_
                  refine g_get (ci := 11) (v := .int (zI (tRf (exP (sEx tx L ps P T sc (Z 12) i)) (exT (sEx tx L ps P T sc (Z 12) i)) (exC (sEx tx L ps P T sc (Z 12) i)) ps (cq tx L i).2.2.1 (cq tx L i).2.2.2.1 (cq tx L i).2.2.2.2.1 (cq tx L i).2.2.2.2.2 0))) (C := RX9) (T := TX9) (N := 24) hx hb hts iU_X9 hown hK hM ⟨by omega, by omega⟩ ho101 rfl 15 (by decide) (hts _ u_1159) (fun _ h9 => h9) rfl dX9_readPlan_100 ?_
                  refine g_if_ne (tgt := 110) hx hb dX9_readPlan_103 (by decide) (by have := @ref_in (exP (sEx tx L ps P T sc (Z 12) i) ps) (cq tx L i).2.2.1 (cq tx L i).2.2.2.1 (cq tx L i).2.2.2.2.1 (cq tx L i).2.2.2.2.2 0 (60 ≤ exC (sEx tx L ps P T sc (Z 12) i) ps) _; unfold tRf; exact ⟨by omega, by omega⟩) (fun c103 => ?_) (fun c103 => ?_)
                  · skip
                    have hq7 : (sCmd tx L (sPos tx L i)).2.1 ≤ L := hci.2.1
                    refine g_iconst hx hb dX9_readPlan_110 ?_
                    refine g_iadd hx hb dX9_readPlan_111 ?_
                    refine lv_istore_n (lv' := [(1, .int (zI ((↑i : Int) + 0))), (2, .int (zI (tAn (exP (sEx tx L ps P T sc (Z 12) i)) (exT (sEx tx L ps P T sc (Z 12) i)) (exC (sEx tx L ps P T sc (Z 12) i)) ps (cq tx L i).2.2.1 (cq tx L i).2.2.2.1 (cq tx L i).2.2.2.2.1 (cq tx L i).2.2.2.2.2 0))), (0, .ref h)]) hx hb dX9_readPlan_112 rfl hl (by decide) rfl (fun ls hl => ?_)
                    refine lv_goto (tgt := 32) hx hb dX9_readPlan_113 (by decide) ?_
                    refine lv_aload_n hx hb dX9_readPlan_32 rfl (lv_at hl 2 rfl) ?_
                    refine g_get (ci := 11) (v := .int (zI (↑(sCmd tx L (sPos tx L i)).2.1 : Int))) (C := RX9) (T := TX9) (N := 24) hx hb hts iU_X9 hown hK hM ⟨by omega, by omega⟩ ho101 rfl 21 (by decide) (hts _ u_1165) (fun _ h9 => h9) rfl dX9_readPlan_33 ?_
                    refine lv_aload_n hx hb dX9_readPlan_36 rfl (lv_at hl 2 rfl) ?_
                    refine g_get (ci := 11) (v := .int (zI (↑L : Int))) (C := RX9) (T := TX9) (N := 24) hx hb hts iU_X9 hown hK hM ⟨by omega, by omega⟩ ho101 rfl 20 (by decide) (hts _ u_1164) (fun _ h9 => h9) rfl dX9_readPlan_37 ?_
                    refine g_icmp_ge (tgt := 116) hx hb dX9_readPlan_40 (by decide) ⟨by omega, by omega⟩ ⟨by omega, by omega⟩ (fun c40 => ?_) (fun c40 => ?_)
                    · skip
                      refine lv_aload_n hx hb dX9_readPlan_116 rfl (lv_at hl 2 rfl) ?_
                      refine g_iconst hx hb dX9_readPlan_117 ?_
                      refine g_put (ci := 11) (v := .int (zI 0)) (ty := .int) (C := RX9) (T := TX9) (N := 24) hx hb hts iU_X9 tyX9 tyX9_ok nmX9 hown hK hM ⟨by omega, by omega⟩ ho101 rfl 20 (by decide) (hts _ u_1164) (fun _ h9 => h9) rfl (by decide +kernel) rfl rfl (Nat.le_of_ble_eq_true rfl) dX9_readPlan_118 (fun f102 H locs hM hf104 o103 => ?_)
                      have hf104 : f102 (h) = .inr (11, [.int (zI (Z 0)), .ref (h + 1), .ref (h + 2), .ref (h + 3), .ref (h + 4), .ref (h + 5), .ref (h + 6), .ref (h + 7), .ref (h + 8), .int (zI (Z 9)), .int (zI (Z 10)), .int (zI (↑(294 * ps) : Int)), .int (zI (if tRf (exP (sEx tx L ps P T sc (Z 12) i)) (exT (sEx tx L ps P T sc (Z 12) i)) (exC (sEx tx L ps P T sc (Z 12) i)) ps (cq tx L i).2.2.1 (cq tx L i).2.2.2.1 (cq tx L i).2.2.2.2.1 (cq tx L i).2.2.2.2.2 0 = 0 then exR (sEx tx L ps P T sc (Z 12) i) else tRf (exP (sEx tx L ps P T sc (Z 12) i)) (exT (sEx tx L ps P T sc (Z 12) i)) (exC (sEx tx L ps P T sc (Z 12) i)) ps (cq tx L i).2.2.1 (cq tx L i).2.2.2.1 (cq tx L i).2.2.2.2.1 (cq tx L i).2.2.2.2.2 0)), .int (zI (Z 13)), .int (zI (Z 14)), .int (zI (tRf (exP (sEx tx L ps P T sc (Z 12) i)) (exT (sEx tx L ps P T sc (Z 12) i)) (exC (sEx tx L ps P T sc (Z 12) i)) ps (cq tx L i).2.2.1 (cq tx L i).2.2.2.1 (cq tx L i).2.2.2.2.1 (cq tx L i).2.2.2.2.2 0)), .int (zI (Z 16)), .ref (h + 9), .ref (h + 10), .ref (h + 11), .int (zI 0), .int (zI (↑(sCmd tx L (sPos tx L i)).2.1 : Int)), .int (zI 0), .ref (h + 12)]) := hf104
                      refine lv_iload_n hx hb dX9_readPlan_121 rfl (lv_at hl 0 rfl) ?_
                      have hf105 := hj94.kept (o103 (h + 1) (by omega))
                      have hf106 := hi3_95.kept (o103 (h + 3) (by omega))
                      have hf107 := hi4_96.kept (o103 (h + 4) (by omega))
                      have hf108 := hj80.kept ((o103 (h + 12) (by omega)).trans (o100 (h + 12) (by omega)))
                      have hf109 := hs99.kept (fun q h1 h2 => (o103 (q) (by omega)))
                      refine g_iret hx hb hr hlk hK hM dX9_readPlan_122 ?_
                      have hse : (sEx tx L ps P T sc (Z 12) (i + 1)) = (true, i, exP (sEx tx L ps P T sc (Z 12) i), exT (sEx tx L ps P T sc (Z 12) i), exC (sEx tx L ps P T sc (Z 12) i), tRf (exP (sEx tx L ps P T sc (Z 12) i)) (exT (sEx tx L ps P T sc (Z 12) i)) (exC (sEx tx L ps P T sc (Z 12) i)) ps (cq tx L i).2.2.1 (cq tx L i).2.2.2.1 (cq tx L i).2.2.2.2.1 (cq tx L i).2.2.2.2.2 0) := by
                        show sExT tx L ps i (sEx tx L ps P T sc (Z 12) i) = _
                        unfold sExT
                        rw [if_neg (by rw [hns]; exact Bool.false_ne_true), if_neg c103]
                      have hst := sEx_stop (tx := tx) (L := L) (ps := ps) (P := P) (T := T) (sc := sc) (rs := Z 12) (i := i + 1) (by rw [hse]) (N + 1 - (i + 1))
                      rw [show i + 1 + (N + 1 - (i + 1)) = N + 1 by omega, hse] at hst
                      have q8 := hr97
                      unfold tP tT tS at q8
                      rw [if_neg c103, if_neg c103, if_neg c103] at q8
                      refine ⟨-1, N, N + 1, hrd, (if_pos rfl).symm, ?_, ⟨_, _, _, hf105, hf106, hf107, by rw [hst]; exact q8⟩, ⟨(pu (pu (pu (pu (pu (pu Z 11 (↑(294 * ps) : Int)) 12 (if tRf (exP (sEx tx L ps P T sc (Z 12) i)) (exT (sEx tx L ps P T sc (Z 12) i)) (exC (sEx tx L ps P T sc (Z 12) i)) ps (cq tx L i).2.2.1 (cq tx L i).2.2.2.1 (cq tx L i).2.2.2.2.1 (cq tx L i).2.2.2.2.2 0 = 0 then exR (sEx tx L ps P T sc (Z 12) i) else tRf (exP (sEx tx L ps P T sc (Z 12) i)) (exT (sEx tx L ps P T sc (Z 12) i)) (exC (sEx tx L ps P T sc (Z 12) i)) ps (cq tx L i).2.2.1 (cq tx L i).2.2.2.1 (cq tx L i).2.2.2.2.1 (cq tx L i).2.2.2.2.2 0)) 15 (tRf (exP (sEx tx L ps P T sc (Z 12) i)) (exT (sEx tx L ps P T sc (Z 12) i)) (exC (sEx tx L ps P T sc (Z 12) i)) ps (cq tx L i).2.2.1 (cq tx L i).2.2.2.1 (cq tx L i).2.2.2.2.1 (cq tx L i).2.2.2.2.2 0)) 20 0) 21 (↑(sCmd tx L (sPos tx L i)).2.1 : Int)) 22 0), hf104, ?_, rfl, fun j h1 h2 h3 h4 h5 h6 => by rw [pu_n (by omega), pu_n (by omega), pu_n (by omega), pu_n (by omega), pu_n (by omega), pu_n (by omega)]⟩, hf109, ⟨_, hf108⟩, fun q hq => ((o103 (q) (by omega)).trans ((o100 (q) (by omega)).trans ((o79 (q) (by omega)).trans ((o69 (q) (by omega)).trans (hfr (q) (by omega))))))⟩
                      · rw [if_pos rfl, hst]; exact congrArg zI (by show (↑i : Int) + 0 = ↑i; omega)
                      · rw [hst]; exact if_neg c103
                    · skip
                      refine lv_aload_n hx hb dX9_readPlan_43 rfl (lv_at hl 2 rfl) ?_
                      refine g_get (ci := 11) (v := .int (zI (tRf (exP (sEx tx L ps P T sc (Z 12) i)) (exT (sEx tx L ps P T sc (Z 12) i)) (exC (sEx tx L ps P T sc (Z 12) i)) ps (cq tx L i).2.2.1 (cq tx L i).2.2.2.1 (cq tx L i).2.2.2.2.1 (cq tx L i).2.2.2.2.2 0))) (C := RX9) (T := TX9) (N := 24) hx hb hts iU_X9 hown hK hM ⟨by omega, by omega⟩ ho101 rfl 15 (by decide) (hts _ u_1159) (fun _ h9 => h9) rfl dX9_readPlan_44 ?_
                      refine g_if_ne (tgt := 116) hx hb dX9_readPlan_47 (by decide) (by have := @ref_in (exP (sEx tx L ps P T sc (Z 12) i) ps) (cq tx L i).2.2.1 (cq tx L i).2.2.2.1 (cq tx L i).2.2.2.2.1 (cq tx L i).2.2.2.2.2 0 (60 ≤ exC (sEx tx L ps P T sc (Z 12) i) ps) _; unfold tRf; exact ⟨by omega, by omega⟩) (fun c47 => ?_) (fun c47 => ?_)
                      · skip
                        refine lv_aload_n hx hb dX9_readPlan_116 rfl (lv_at hl 2 rfl) ?_
                        refine g_iconst hx hb dX9_readPlan_117 ?_
                        refine g_put (ci := 11) (v := .int (zI 0)) (ty := .int) (C := RX9) (T := TX9) (N := 24) hx hb hts iU_X9 tyX9 tyX9_ok nmX9 hown hK hM ⟨by omega, by omega⟩ ho101 rfl 20 (by decide) (hts _ u_1164) (fun _ h9 => h9) rfl (by decide +kernel) rfl rfl (Nat.le_of_ble_eq_true rfl) dX9_readPlan_118 (fun f110 H locs hM hf112 o111 => ?_)
                        have hf112 : f110 (h) = .inr (11, [.int (zI (Z 0)), .ref (h + 1), .ref (h + 2), .ref (h + 3), .ref (h + 4), .ref (h + 5), .ref (h + 6), .ref (h + 7), .ref (h + 8), .int (zI (Z 9)), .int (zI (Z 10)), .int (zI (↑(294 * ps) : Int)), .int (zI (if tRf (exP (sEx tx L ps P T sc (Z 12) i)) (exT (sEx tx L ps P T sc (Z 12) i)) (exC (sEx tx L ps P T sc (Z 12) i)) ps (cq tx L i).2.2.1 (cq tx L i).2.2.2.1 (cq tx L i).2.2.2.2.1 (cq tx L i).2.2.2.2.2 0 = 0 then exR (sEx tx L ps P T sc (Z 12) i) else tRf (exP (sEx tx L ps P T sc (Z 12) i)) (exT (sEx tx L ps P T sc (Z 12) i)) (exC (sEx tx L ps P T sc (Z 12) i)) ps (cq tx L i).2.2.1 (cq tx L i).2.2.2.1 (cq tx L i).2.2.2.2.1 (cq tx L i).2.2.2.2.2 0)), .int (zI (Z 13)), .int (zI (Z 14)), .int (zI (tRf (exP (sEx tx L ps P T sc (Z 12) i)) (exT (sEx tx L ps P T sc (Z 12) i)) (exC (sEx tx L ps P T sc (Z 12) i)) ps (cq tx L i).2.2.1 (cq tx L i).2.2.2.1 (cq tx L i).2.2.2.2.1 (cq tx L i).2.2.2.2.2 0)), .int (zI (Z 16)), .ref (h + 9), .ref (h + 10), .ref (h + 11), .int (zI 0), .int (zI (↑(sCmd tx L (sPos tx L i)).2.1 : Int)), .int (zI 0), .ref (h + 12)]) := hf112
                        refine lv_iload_n hx hb dX9_readPlan_121 rfl (lv_at hl 0 rfl) ?_
                        have hf113 := hj94.kept (o111 (h + 1) (by omega))
                        have hf114 := hi3_95.kept (o111 (h + 3) (by omega))
                        have hf115 := hi4_96.kept (o111 (h + 4) (by omega))
                        have hf116 := hj80.kept ((o111 (h + 12) (by omega)).trans (o100 (h + 12) (by omega)))
                        have hf117 := hs99.kept (fun q h1 h2 => (o111 (q) (by omega)))
                        refine g_iret hx hb hr hlk hK hM dX9_readPlan_122 ?_
                        have hse : (sEx tx L ps P T sc (Z 12) (i + 1)) = (true, i, exP (sEx tx L ps P T sc (Z 12) i), exT (sEx tx L ps P T sc (Z 12) i), exC (sEx tx L ps P T sc (Z 12) i), tRf (exP (sEx tx L ps P T sc (Z 12) i)) (exT (sEx tx L ps P T sc (Z 12) i)) (exC (sEx tx L ps P T sc (Z 12) i)) ps (cq tx L i).2.2.1 (cq tx L i).2.2.2.1 (cq tx L i).2.2.2.2.1 (cq tx L i).2.2.2.2.2 0) := by
                          show sExT tx L ps i (sEx tx L ps P T sc (Z 12) i) = _
                          unfold sExT
                          rw [if_neg (by rw [hns]; exact Bool.false_ne_true), if_neg c103]
                        have hst := sEx_stop (tx := tx) (L := L) (ps := ps) (P := P) (T := T) (sc := sc) (rs := Z 12) (i := i + 1) (by rw [hse]) (N + 1 - (i + 1))
                        rw [show i + 1 + (N + 1 - (i + 1)) = N + 1 by omega, hse] at hst
                        have q8 := hr97
                        unfold tP tT tS at q8
                        rw [if_neg c103, if_neg c103, if_neg c103] at q8
                        refine ⟨-1, N, N + 1, hrd, (if_pos rfl).symm, ?_, ⟨_, _, _, hf113, hf114, hf115, by rw [hst]; exact q8⟩, ⟨(pu (pu (pu (pu (pu (pu Z 11 (↑(294 * ps) : Int)) 12 (if tRf (exP (sEx tx L ps P T sc (Z 12) i)) (exT (sEx tx L ps P T sc (Z 12) i)) (exC (sEx tx L ps P T sc (Z 12) i)) ps (cq tx L i).2.2.1 (cq tx L i).2.2.2.1 (cq tx L i).2.2.2.2.1 (cq tx L i).2.2.2.2.2 0 = 0 then exR (sEx tx L ps P T sc (Z 12) i) else tRf (exP (sEx tx L ps P T sc (Z 12) i)) (exT (sEx tx L ps P T sc (Z 12) i)) (exC (sEx tx L ps P T sc (Z 12) i)) ps (cq tx L i).2.2.1 (cq tx L i).2.2.2.1 (cq tx L i).2.2.2.2.1 (cq tx L i).2.2.2.2.2 0)) 15 (tRf (exP (sEx tx L ps P T sc (Z 12) i)) (exT (sEx tx L ps P T sc (Z 12) i)) (exC (sEx tx L ps P T sc (Z 12) i)) ps (cq tx L i).2.2.1 (cq tx L i).2.2.2.1 (cq tx L i).2.2.2.2.1 (cq tx L i).2.2.2.2.2 0)) 20 0) 21 (↑(sCmd tx L (sPos tx L i)).2.1 : Int)) 22 0), hf112, ?_, rfl, fun j h1 h2 h3 h4 h5 h6 => by rw [pu_n (by omega), pu_n (by omega), pu_n (by omega), pu_n (by omega), pu_n (by omega), pu_n (by omega)]⟩, hf117, ⟨_, hf116⟩, fun q hq => ((o111 (q) (by omega)).trans ((o100 (q) (by omega)).trans ((o79 (q) (by omega)).trans ((o69 (q) (by omega)).trans (hfr (q) (by omega))))))⟩
                        · rw [if_pos rfl, hst]; exact congrArg zI (by show (↑i : Int) + 0 = ↑i; omega)
                        · rw [hst]; exact if_neg c103
                      · skip
                        exact absurd c47 c103
                  · skip
                    have hse : (sEx tx L ps P T sc (Z 12) (i + 1)) = (false, i + 1, tP (exP (sEx tx L ps P T sc (Z 12) i)) (exT (sEx tx L ps P T sc (Z 12) i)) (exC (sEx tx L ps P T sc (Z 12) i)) ps (cq tx L i).2.2.1 (cq tx L i).2.2.2.1 (cq tx L i).2.2.2.2.1 (cq tx L i).2.2.2.2.2 0, tT (exP (sEx tx L ps P T sc (Z 12) i)) (exT (sEx tx L ps P T sc (Z 12) i)) (exC (sEx tx L ps P T sc (Z 12) i)) ps (cq tx L i).2.2.1 (cq tx L i).2.2.2.1 (cq tx L i).2.2.2.2.1 (cq tx L i).2.2.2.2.2 0, tS (exP (sEx tx L ps P T sc (Z 12) i)) (exT (sEx tx L ps P T sc (Z 12) i)) (exC (sEx tx L ps P T sc (Z 12) i)) ps (cq tx L i).2.2.1 (cq tx L i).2.2.2.1 (cq tx L i).2.2.2.2.1 (cq tx L i).2.2.2.2.2 0, exR (sEx tx L ps P T sc (Z 12) i)) := by
                      show sExT tx L ps i (sEx tx L ps P T sc (Z 12) i) = _
                      unfold sExT
                      rw [if_neg (by rw [hns]; exact Bool.false_ne_true), if_pos c103]
                    have hos118 : f92 h = .inr (11, [.int (zI (Z 0)), .ref (h + 1), .ref (h + 2), .ref (h + 3), .ref (h + 4), .ref (h + 5), .ref (h + 6), .ref (h + 7), .ref (h + 8), .int (zI (Z 9)), .int (zI (Z 10)), .int (zI (↑(294 * ps) : Int)), .int (zI (exR (sEx tx L ps P T sc (Z 12) (i + 1)))), .int (zI (Z 13)), .int (zI (Z 14)), .int (zI 0), .int (zI (Z 16)), .ref (h + 9), .ref (h + 10), .ref (h + 11), .int (zI (↑L : Int)), .int (zI (↑(sCmd tx L (sPos tx L i)).2.1 : Int)), .int (zI 0), .ref (h + 12)]) := by have q9 := ho101; rw [if_pos c103, c103] at q9; rw [hse]; exact q9
                    refine g_iconst hx hb dX9_readPlan_106 ?_
                    refine lv_goto (tgt := 111) hx hb dX9_readPlan_107 (by decide) ?_
                    refine g_iadd hx hb dX9_readPlan_111 ?_
                    refine lv_istore_n (lv' := [(1, .int (zI ((↑i : Int) + 1))), (2, .int (zI (tAn (exP (sEx tx L ps P T sc (Z 12) i)) (exT (sEx tx L ps P T sc (Z 12) i)) (exC (sEx tx L ps P T sc (Z 12) i)) ps (cq tx L i).2.2.1 (cq tx L i).2.2.2.1 (cq tx L i).2.2.2.2.1 (cq tx L i).2.2.2.2.2 0))), (0, .ref h)]) hx hb dX9_readPlan_112 rfl hl (by decide) rfl (fun ls hl => ?_)
                    refine lv_goto (tgt := 32) hx hb dX9_readPlan_113 (by decide) ?_
                    have hf119 := hf89.kept (o100 (h + 5) (by omega))
                    have hf120 := hf72.kept ((o100 (h + 11) (by omega)).trans (o79 (h + 11) (by omega)))
                    have hf121 := hj80.kept (o100 (h + 12) (by omega))
                    exact ih32 (i + 1) ((cq tx L i).2.1) (↑(294 * ps) : Int) _ _ _ _ f92 _ _ _ (by omega) (by omega) (by rw [hse]) (Or.inr ⟨by omega, rfl⟩) (by have q8 := hr97; rw [hse]; exact q8) (fun q hq => ((o100 (q) (by omega)).trans ((o79 (q) (by omega)).trans ((o69 (q) (by omega)).trans (hfr (q) (by omega)))))) hM hos118 hj94 hi3_95 hi4_96 hf119 hs99 hf120 hf121 (lv_sub hl [2, 0] rfl)
                · skip
                  exact absurd (hcc81.symm.trans hcgi) (by decide)
      have hf122 := hPl.kept ((o9 (h + 1) (by omega)).trans ((o6 (h + 1) (by omega)).trans (o0 (h + 1) (by omega))))
      have hf123 := hSt.kept ((o9 (h + 3) (by omega)).trans ((o6 (h + 3) (by omega)).trans (o0 (h + 3) (by omega))))
      have hf124 := hMn.kept ((o9 (h + 4) (by omega)).trans ((o6 (h + 4) (by omega)).trans (o0 (h + 4) (by omega))))
      have hf125 := hPr.kept ((o9 (h + 5) (by omega)).trans ((o6 (h + 5) (by omega)).trans (o0 (h + 5) (by omega))))
      have hf126 := hsc.kept (fun q h1 h2 => ((o9 (q) (by omega)).trans ((o6 (q) (by omega)).trans (o0 (q) (by omega)))))
      have hf127 := hIn.kept ((o9 (h + 11) (by omega)).trans ((o6 (h + 11) (by omega)).trans (o0 (h + 11) (by omega))))
      have hf128 := hj0.kept ((o9 (h + 12) (by omega)).trans (o6 (h + 12) (by omega)))
      exact lp32 ((N + 2)) 0 0 (Z 11) _ _ _ _ f8 _ _ _ (by omega) (by omega) rfl (Or.inl ⟨rfl, rfl⟩) hR (fun q hq => ((o9 (q) (by omega)).trans ((o6 (q) (by omega)).trans (o0 (q) (by omega))))) hM hf10 hf122 hf123 hf124 hf125 hf126 hf127 hf128 (lv_sub hl [1, 0] rfl)
    · exact absurd c4 (by decide)
  · skip
    have ho129 : f2 h = .inr (11, [.int (zI (Z 0)), .ref (h + 1), .ref (h + 2), .ref (h + 3), .ref (h + 4), .ref (h + 5), .ref (h + 6), .ref (h + 7), .ref (h + 8), .int (zI (Z 9)), .int (zI (Z 10)), .int (zI (Z 11)), .int (zI (Z 12)), .int (zI (Z 13)), .int (zI (Z 14)), .int (zI (Z 15)), .int (zI (Z 16)), .ref (h + 9), .ref (h + 10), .ref (h + 11), .int (zI (↑L : Int)), .int (zI (↑(cq tx L N).2.1 : Int)), .int (zI w9), .ref (h + 12)]) := hm0
    have hpL : (cq tx L N).2.1 ≤ L := (chn_in hL hrd.1).1.2.1
    refine g_if_eq (tgt := 20) hx hb dX9_readPlan_4 (by decide) (by decide) (fun c4 => ?_) (fun c4 => ?_)
    · exact absurd c4 (by decide)
    · skip
      refine lv_aload_n hx hb dX9_readPlan_7 rfl (lv_at hl 0 rfl) ?_
      refine g_iconst hx hb dX9_readPlan_8 ?_
      refine g_put (ci := 11) (v := .int (zI 0)) (ty := .int) (C := RX9) (T := TX9) (N := 24) hx hb hts iU_X9 tyX9 tyX9_ok nmX9 hown hK hM ⟨by omega, by omega⟩ ho129 rfl 20 (by decide) (hts _ u_1164) (fun _ h9 => h9) rfl (by decide +kernel) rfl rfl (Nat.le_of_ble_eq_true rfl) dX9_readPlan_9 (fun f130 H locs hM hf132 o131 => ?_)
      have hf132 : f130 (h) = .inr (11, [.int (zI (Z 0)), .ref (h + 1), .ref (h + 2), .ref (h + 3), .ref (h + 4), .ref (h + 5), .ref (h + 6), .ref (h + 7), .ref (h + 8), .int (zI (Z 9)), .int (zI (Z 10)), .int (zI (Z 11)), .int (zI (Z 12)), .int (zI (Z 13)), .int (zI (Z 14)), .int (zI (Z 15)), .int (zI (Z 16)), .ref (h + 9), .ref (h + 10), .ref (h + 11), .int (zI 0), .int (zI (↑(cq tx L N).2.1 : Int)), .int (zI w9), .ref (h + 12)]) := hf132
      refine g_bipush hx hb dX9_readPlan_12 (by decide) ?_
      refine lv_aload_n hx hb dX9_readPlan_14 rfl (lv_at hl 0 rfl) ?_
      refine g_get (ci := 11) (v := .int (zI (↑(cq tx L N).2.1 : Int))) (C := RX9) (T := TX9) (N := 24) hx hb hts iU_X9 hown hK hM ⟨by omega, by omega⟩ hf132 rfl 21 (by decide) (hts _ u_1165) (fun _ h9 => h9) rfl dX9_readPlan_15 ?_
      refine g_isub hx hb dX9_readPlan_18 ?_
      have hf133 := hPl.kept ((o131 (h + 1) (by omega)).trans (o0 (h + 1) (by omega)))
      have hf134 := hSt.kept ((o131 (h + 3) (by omega)).trans (o0 (h + 3) (by omega)))
      have hf135 := hMn.kept ((o131 (h + 4) (by omega)).trans (o0 (h + 4) (by omega)))
      have hf136 := hj0.kept (o131 (h + 12) (by omega))
      have hf137 := hsc.kept (fun q h1 h2 => ((o131 (q) (by omega)).trans (o0 (q) (by omega))))
      refine g_iret hx hb hr hlk hK hM dX9_readPlan_19 ?_
      exact ⟨_, N, 0, hrd, (if_neg (by omega)).symm, by rw [if_neg (by omega)], ⟨_, _, _, hf133, hf134, hf135, hR⟩, ⟨(pu (pu (pu Z 20 0) 21 (↑(cq tx L N).2.1 : Int)) 22 w9), hf132, rfl, rfl, fun j h1 h2 h3 h4 h5 h6 => by rw [pu_n (by omega), pu_n (by omega), pu_n (by omega)]⟩, hf137, ⟨_, hf136⟩, fun q hq => ((o131 (q) (by omega)).trans (o0 (q) (by omega)))⟩
